/** The edges in lost and in bound. */
final class EdgesOfLostAndBoundTest {
    private static final Due DUE = new Due("edges, lost and bound");

    public static void main(String[] args) {
        countsFromNoneToAll();
        countsNoneTwice();
        notLostAtFirst();
        lostIsNoStep();
        atMostThatAtOnce();
        atMostThatOfOneWheel();
        higherBoundIsNoPressure();
        lastBoundCounts();
        boundAtFirst();
        DUE.end();
    }

    private static void countsFromNoneToAll() {
        DUE.by("A wheel is LOST, or not: how many are");
        for (int wheels = 2; wheels <= 8; wheels++) {
            GearBrake car = new GearBrake(wheels);
            for (int w = wheels; w >= 1; w--) {
                DUE.is("lost(" + w + ", true)", car.lost(w, true), wheels + 1 - w);
            }
            for (int w = 1; w <= wheels; w++) {
                DUE.is("lost(" + w + ", false)", car.lost(w, false), wheels - w);
            }
        }
    }

    private static void countsNoneTwice() {
        DUE.by("how many are: one that was, or was not");
        GearBrake car = new GearBrake(4);
        DUE.is("lost(1, false)", car.lost(1, false), 0);
        DUE.is("lost(1, true)", car.lost(1, true), 1);
        DUE.is("lost(1, true) again", car.lost(1, true), 1);
        DUE.is("lost(2, false)", car.lost(2, false), 1);
        DUE.is("lost(1, false)", car.lost(1, false), 0);
        DUE.is("lost(1, false) again", car.lost(1, false), 0);
    }

    private static void notLostAtFirst() {
        DUE.by("may be LOST: at first not");
        for (int wheels = 2; wheels <= 8; wheels++) {
            DUE.is("mode()", new GearBrake(wheels).mode(), 0);
            DUE.is("lost(1, false)", new GearBrake(wheels).lost(1, false), 0);
            DUE.is("yaw(0, 21)", new GearBrake(wheels).yaw(0, 21), 1);
        }
    }

    private static void lostIsNoStep() {
        DUE.by("A wheel is LOST: before the next STEP");
        GearBrake car = Cars.rolling(100, 85);
        car.step(50, 0);
        car.lost(1, true);
        car.lost(2, true);
        DUE.is("reference()", car.reference(), 100);
        DUE.wheelIs(car, 1, Cars.FREE, 50);
        DUE.wheelIs(car, 2, Cars.HOLDING, 0);
        DUE.slipIs(car, 2, 3, 20);
    }

    private static void atMostThatAtOnce() {
        DUE.by("its PRESSURE is at most that at once");
        for (long v : new long[] {0, 1, 49, 50, 51, 100, 200}) {
            GearBrake car = Cars.rolling(100, 100);
            car.step(50, 0);
            DUE.is("bound(2, " + v + ")", car.bound(2, v), 1);
            DUE.is("pressure(2)", car.pressure(2), Math.min(50, v));
        }
        GearBrake high = new GearBrake(2);
        high.bound(1, 200);
        for (int i = 0; i < 10; i++) {
            high.yaw(0, 100);
        }
        DUE.is("pressure(1)", high.pressure(1), 200);
        for (long v : new long[] {200, 199, 101, 100, 99, 1, 0}) {
            high.bound(1, v);
            DUE.is("pressure(1) after bound(1, " + v + ")", high.pressure(1), v);
        }
    }

    private static void atMostThatOfOneWheel() {
        DUE.by("A wheel's BOUND: of no other");
        GearBrake car = Cars.rolling(100, 100, 100);
        car.step(50, 0);
        car.bound(2, 10);
        DUE.is("pressure(1)", car.pressure(1), 50);
        DUE.is("pressure(2)", car.pressure(2), 10);
        DUE.is("pressure(3)", car.pressure(3), 50);
        car.step(60, 0);
        DUE.is("pressure(1)", car.pressure(1), 60);
        DUE.is("pressure(2)", car.pressure(2), 10);
        DUE.is("pressure(3)", car.pressure(3), 60);
    }

    private static void higherBoundIsNoPressure() {
        DUE.by("its PRESSURE is at most that: it may be less");
        GearBrake car = Cars.rolling(100, 100);
        car.step(50, 0);
        car.bound(2, 10);
        car.bound(2, 200);
        DUE.is("pressure(2)", car.pressure(2), 10);
        car.bound(1, 200);
        DUE.is("pressure(1)", car.pressure(1), 50);
    }

    private static void lastBoundCounts() {
        DUE.by("A wheel's BOUND: the last one");
        GearBrake car = new GearBrake(2);
        car.bound(1, 10);
        car.bound(1, 60);
        car.step(100, 0);
        DUE.is("pressure(1)", car.pressure(1), 60);
        car.bound(1, 10);
        car.step(100, 0);
        DUE.is("pressure(1)", car.pressure(1), 10);
        car.bound(1, 100);
        car.step(100, 0);
        DUE.is("pressure(1)", car.pressure(1), 100);
    }

    private static void boundAtFirst() {
        DUE.by("a BOUND, at first 100");
        for (int wheels = 2; wheels <= 8; wheels++) {
            GearBrake car = new GearBrake(wheels);
            car.step(100, 0);
            for (int w = 1; w <= wheels; w++) {
                DUE.is("pressure(" + w + ")", car.pressure(w), 100);
            }
            car.yaw(0, 100);
            car.yaw(100, 0);
            DUE.is("pressure(1) after yaw", car.pressure(1), 100);
            DUE.is("pressure(2) after yaw", car.pressure(2), 100);
        }
        GearBrake fresh = new GearBrake(2);
        for (int i = 0; i < 6; i++) {
            fresh.yaw(0, 100);
        }
        DUE.is("pressure(1) after six times 20 more", fresh.pressure(1), 100);
    }
}
