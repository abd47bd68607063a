/** The edges in yaw. */
final class EdgesOfYawTest {
    private static final Due DUE = new Due("edges, yaw");

    public static void main(String[] args) {
        moreThanTwentyApart();
        greaterSeen();
        farthestApart();
        noWheelIsLost();
        foundAgain();
        twentyMore();
        atMostItsBound();
        boundOfZero();
        oneWheelAlone();
        notByAStep();
        DUE.end();
    }

    private static void yawIs(GearBrake car, long seen, long wished, int due, long first, long second) {
        DUE.is("yaw(" + seen + ", " + wished + ")", car.yaw(seen, wished), due);
        DUE.is("pressure(1)", car.pressure(1), first);
        DUE.is("pressure(2)", car.pressure(2), second);
    }

    private static void moreThanTwentyApart() {
        DUE.by("if they are more than 20 apart");
        for (long wished : new long[] {-978, -100, -20, -10, 0, 10, 20, 100, 978}) {
            for (long apart : new long[] {0, 1, 19, 20}) {
                yawIs(new GearBrake(2), wished + apart, wished, 0, 0, 0);
                yawIs(new GearBrake(2), wished - apart, wished, 0, 0, 0);
            }
            for (long apart : new long[] {21, 22}) {
                yawIs(new GearBrake(2), wished + apart, wished, 2, 0, 20);
                yawIs(new GearBrake(2), wished - apart, wished, 1, 20, 0);
            }
        }
    }

    private static void greaterSeen() {
        DUE.by("wheel 2 if seen is the greater one, otherwise 1");
        for (int wheels = 2; wheels <= 8; wheels++) {
            yawIs(new GearBrake(wheels), 21, 0, 2, 0, 20);
            yawIs(new GearBrake(wheels), 0, 21, 1, 20, 0);
            yawIs(new GearBrake(wheels), -21, -42, 2, 0, 20);
            yawIs(new GearBrake(wheels), -42, -21, 1, 20, 0);
            yawIs(new GearBrake(wheels), 11, -11, 2, 0, 20);
            yawIs(new GearBrake(wheels), -11, 11, 1, 20, 0);
        }
    }

    private static void farthestApart() {
        DUE.by("more than 20 apart: the farthest");
        yawIs(new GearBrake(2), 1000, -1000, 2, 0, 20);
        yawIs(new GearBrake(2), -1000, 1000, 1, 20, 0);
        yawIs(new GearBrake(2), 1000, 1000, 0, 0, 0);
        yawIs(new GearBrake(2), -1000, -1000, 0, 0, 0);
        yawIs(new GearBrake(2), 1000, 980, 0, 0, 0);
        yawIs(new GearBrake(2), 1000, 979, 2, 0, 20);
        yawIs(new GearBrake(2), -1000, -980, 0, 0, 0);
        yawIs(new GearBrake(2), -1000, -979, 1, 20, 0);
    }

    private static void noWheelIsLost() {
        DUE.by("and no wheel is LOST");
        for (int wheels = 2; wheels <= 8; wheels++) {
            for (int w = 1; w <= wheels; w++) {
                GearBrake car = new GearBrake(wheels);
                car.lost(w, true);
                yawIs(car, 21, 0, 0, 0, 0);
                yawIs(car, 0, 21, 0, 0, 0);
                yawIs(car, 0, 0, 0, 0, 0);
            }
        }
    }

    private static void foundAgain() {
        DUE.by("and no wheel is LOST: not any more");
        GearBrake car = new GearBrake(3);
        car.lost(3, true);
        car.lost(1, true);
        car.lost(3, false);
        yawIs(car, 21, 0, 0, 0, 0);
        car.lost(1, false);
        yawIs(car, 21, 0, 2, 0, 20);
        yawIs(car, 0, 21, 1, 20, 20);
    }

    private static void twentyMore() {
        DUE.by("the PRESSURE of one wheel becomes 20 more");
        for (long pedal : new long[] {0, 1, 79, 80}) {
            GearBrake car = Cars.rolling(50, 50, 50);
            car.step(pedal, 0);
            yawIs(car, 100, 0, 2, pedal, pedal + 20);
            yawIs(car, 0, 100, 1, pedal + 20, pedal + 20);
            DUE.is("pressure(3)", car.pressure(3), pedal);
        }
    }

    private static void atMostItsBound() {
        DUE.by("at most its BOUND");
        for (long pedal : new long[] {80, 81, 99, 100}) {
            GearBrake car = Cars.rolling(50, 50);
            car.step(pedal, 0);
            yawIs(car, 100, 0, 2, pedal, 100);
            yawIs(car, 100, 0, 2, pedal, 100);
            yawIs(car, 0, 100, 1, 100, 100);
        }
        for (long bound : new long[] {0, 1, 19, 20, 21, 39, 40, 41, 100, 199, 200}) {
            GearBrake car = new GearBrake(2);
            car.bound(2, bound);
            for (int i = 1; i <= 12; i++) {
                yawIs(car, 100, 0, 2, 0, Math.min(20 * i, bound));
            }
        }
    }

    private static void boundOfZero() {
        DUE.by("at most its BOUND: of 0");
        GearBrake car = new GearBrake(2);
        car.bound(1, 0);
        car.bound(2, 0);
        yawIs(car, 21, 0, 2, 0, 0);
        yawIs(car, 0, 21, 1, 0, 0);
    }

    private static void oneWheelAlone() {
        DUE.by("of one wheel");
        for (int wheels = 2; wheels <= 8; wheels++) {
            GearBrake car = new GearBrake(wheels);
            car.yaw(0, 100);
            car.yaw(100, 0);
            for (int w = 1; w <= wheels; w++) {
                DUE.wheelIs(car, w, Cars.FREE, w <= 2 ? 20 : 0);
            }
        }
    }

    private static void notByAStep() {
        DUE.by("becomes 20 more: until the next STEP");
        GearBrake car = Cars.rolling(100, 80);
        car.step(50, 0);
        yawIs(car, 100, 0, 2, 50, 20);
        yawIs(car, 0, 100, 1, 70, 20);
        car.step(50, 0);
        DUE.wheelIs(car, 1, Cars.FREE, 50);
        DUE.wheelIs(car, 2, Cars.HOLDING, 20);
        DUE.is("gear()", car.gear(), 2);
    }
}
