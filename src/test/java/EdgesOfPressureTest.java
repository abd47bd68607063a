/** The edges in point 2 of a STEP: the PRESSURE that each PHASE, the HOLD and the BOUND lead to. */
final class EdgesOfPressureTest {
    private static final Due DUE = new Due("edges, point 2, pressures");

    public static void main(String[] args) {
        freeIsThePedal();
        holdingAsItIs();
        releasingTenLess();
        releasingNotBelowZero();
        buildingFiveMore();
        buildingAtMostThePedal();
        holdAtLeastThirty();
        holdInEachPhase();
        noHoldNoThirty();
        holdOfTheStepThatEndsIt();
        freeAtMostTheBound();
        holdAtMostTheBound();
        buildingAtMostTheBound();
        DUE.end();
    }

    /** Wheel 1 keeps the reference at 100; wheel 2 was FREE with this pressure and has this speed now. */
    private static GearBrake pressed(long pressure, long speed) {
        GearBrake car = Cars.rolling(100, 100);
        if (pressure > 100) {
            car.bound(2, pressure);
        }
        car.step(Math.min(pressure, 100), 0);
        for (long p = 100; p < pressure; p += 20) {
            car.yaw(100, 0);
        }
        DUE.wheelIs(car, 2, Cars.FREE, pressure);
        car.wheel(2, speed);
        return car;
    }

    private static void pressureIs(GearBrake car, long pedal, int phase, long due) {
        car.step(pedal, 0);
        DUE.wheelIs(car, 2, phase, due);
    }

    private static void freeIsThePedal() {
        DUE.by("FREE the PEDAL");
        for (long before : new long[] {0, 1, 50, 100, 200}) {
            for (long pedal : new long[] {0, 1, 50, 99, 100}) {
                pressureIs(pressed(before, 100), pedal, Cars.FREE, pedal);
            }
        }
    }

    private static void holdingAsItIs() {
        DUE.by("HOLDING as it is");
        for (long before : new long[] {0, 1, 50, 99, 100, 101, 200}) {
            for (long pedal : new long[] {1, 50, 100}) {
                GearBrake car = pressed(before, 80);
                pressureIs(car, pedal, Cars.HOLDING, before);
                pressureIs(car, pedal, Cars.HOLDING, before);
            }
        }
    }

    private static void releasingTenLess() {
        DUE.by("RELEASING 10 less");
        for (long before : new long[] {10, 11, 12, 20, 21, 99, 100, 101, 200}) {
            pressureIs(pressed(before, 79), 50, Cars.RELEASING, before - 10);
            pressureIs(pressed(before, 0), 100, Cars.RELEASING, before - 10);
        }
    }

    private static void releasingNotBelowZero() {
        DUE.by("RELEASING not below 0");
        for (long before = 0; before <= 10; before++) {
            GearBrake car = pressed(before, 79);
            pressureIs(car, 50, Cars.RELEASING, 0);
            pressureIs(car, 50, Cars.RELEASING, 0);
        }
    }

    private static void buildingFiveMore() {
        DUE.by("BUILDING 5 more");
        for (long before : new long[] {0, 1, 30, 94, 95}) {
            GearBrake car = pressed(before, 80);
            pressureIs(car, 50, Cars.HOLDING, before);
            car.wheel(2, 90);
            pressureIs(car, 100, Cars.BUILDING, before + 5);
        }
    }

    private static void buildingAtMostThePedal() {
        DUE.by("BUILDING at most the PEDAL");
        for (long before : new long[] {30, 100, 150, 200}) {
            for (long pedal : new long[] {1, 29, 30, 31, 34, 35, 36, 99, 100}) {
                GearBrake car = pressed(before, 80);
                pressureIs(car, 50, Cars.HOLDING, before);
                car.wheel(2, 90);
                pressureIs(car, pedal, Cars.BUILDING, Math.min(before + 5, pedal));
            }
        }
    }

    private static void holdAtLeastThirty() {
        DUE.by("while there is a HOLD, at least 30");
        for (long pedal : new long[] {0, 1, 28, 29, 30, 31, 32, 99, 100}) {
            GearBrake car = new GearBrake(2);
            car.hold(true);
            pressureIs(car, pedal, Cars.FREE, pedal < 30 ? 30 : pedal);
            DUE.is("pressure(1)", car.pressure(1), pedal < 30 ? 30 : pedal);
        }
    }

    /** A held car whose reference is 20; wheel 2 has this speed and, from the hold, this pressure. */
    private static GearBrake held(long pressure, long speed) {
        GearBrake car = new GearBrake(2);
        car.hold(true);
        car.wheel(1, 20);
        car.wheel(2, 20);
        pressureIs(car, pressure, Cars.FREE, pressure);
        car.wheel(2, speed);
        return car;
    }

    private static void holdInEachPhase() {
        DUE.by("while there is a HOLD, at least 30: in each PHASE");
        pressureIs(held(30, 16), 10, Cars.HOLDING, 30);
        pressureIs(held(31, 16), 10, Cars.HOLDING, 31);
        pressureIs(held(39, 15), 10, Cars.RELEASING, 30);
        pressureIs(held(40, 15), 10, Cars.RELEASING, 30);
        pressureIs(held(41, 15), 10, Cars.RELEASING, 31);
        GearBrake car = held(30, 16);
        pressureIs(car, 29, Cars.HOLDING, 30);
        car.wheel(2, 18);
        pressureIs(car, 29, Cars.BUILDING, 30);
        pressureIs(car, 31, Cars.BUILDING, 31);
        pressureIs(car, 31, Cars.FREE, 31);
    }

    private static void noHoldNoThirty() {
        DUE.by("while there is a HOLD: there is none");
        GearBrake never = new GearBrake(2);
        pressureIs(never, 0, Cars.FREE, 0);
        pressureIs(never, 29, Cars.FREE, 29);
        GearBrake ended = new GearBrake(2);
        ended.hold(true);
        pressureIs(ended, 0, Cars.FREE, 30);
        ended.hold(false);
        DUE.is("pressure(2) before the step", ended.pressure(2), 30);
        pressureIs(ended, 0, Cars.FREE, 0);
    }

    private static void holdOfTheStepThatEndsIt() {
        DUE.by("while there is a HOLD: it is gone after the pressures");
        for (long speed : new long[] {20, 21, 1000}) {
            GearBrake car = new GearBrake(2);
            car.hold(true);
            car.wheel(2, speed);
            pressureIs(car, 0, Cars.FREE, 30);
            pressureIs(car, 0, Cars.FREE, speed == 20 ? 30 : 0);
        }
    }

    private static void freeAtMostTheBound() {
        DUE.by("at last at most its BOUND: FREE");
        for (long bound : new long[] {0, 1, 49, 50, 51, 99, 100, 101, 200}) {
            GearBrake car = Cars.rolling(100, 100);
            car.bound(2, bound);
            pressureIs(car, 50, Cars.FREE, Math.min(50, bound));
            DUE.is("pressure(1)", car.pressure(1), 50);
            pressureIs(car, 100, Cars.FREE, Math.min(100, bound));
            pressureIs(car, 0, Cars.FREE, 0);
        }
    }

    private static void holdAtMostTheBound() {
        DUE.by("at last at most its BOUND: HOLD");
        for (long bound : new long[] {0, 1, 29, 30, 31, 200}) {
            GearBrake car = new GearBrake(2);
            car.hold(true);
            car.bound(2, bound);
            pressureIs(car, 0, Cars.FREE, Math.min(30, bound));
            DUE.is("pressure(1)", car.pressure(1), 30);
        }
    }

    private static void buildingAtMostTheBound() {
        DUE.by("at last at most its BOUND: BUILDING");
        for (long bound : new long[] {40, 41, 44, 45, 46}) {
            GearBrake car = pressed(40, 80);
            car.bound(2, bound);
            pressureIs(car, 60, Cars.HOLDING, 40);
            car.wheel(2, 90);
            pressureIs(car, 60, Cars.BUILDING, Math.min(45, bound));
            pressureIs(car, 60, Cars.BUILDING, Math.min(50, bound));
        }
    }
}
