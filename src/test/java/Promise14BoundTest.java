/** Promise 14: a wheel's bound. */
final class Promise14BoundTest {
    private static final Due DUE = new Due("promise 14, bound");

    public static void main(String[] args) {
        pressureIsBoundAtOnce();
        edges();
        higherBoundLeavesThePressure();
        refusals();
        DUE.end();
    }

    private static void pressureIsBoundAtOnce() {
        GearBrake car = new GearBrake(3);
        car.step(80, 0);
        DUE.is("bound(2, 50)", car.bound(2, 50), 1);
        DUE.is("pressure(1)", car.pressure(1), 80);
        DUE.is("pressure(2)", car.pressure(2), 50);
        DUE.is("pressure(3)", car.pressure(3), 80);
        DUE.is("bound(2, 50) again", car.bound(2, 50), 1);
        car.step(80, 0);
        DUE.is("pressure(2)", car.pressure(2), 50);
        DUE.is("bound(1, 80)", car.bound(1, 80), 1);
        DUE.is("pressure(1)", car.pressure(1), 80);
        DUE.is("bound(1, 79)", car.bound(1, 79), 1);
        DUE.is("pressure(1)", car.pressure(1), 79);
    }

    private static void edges() {
        GearBrake car = new GearBrake(2);
        car.step(100, 0);
        DUE.is("bound(1, 0)", car.bound(1, 0), 1);
        DUE.is("pressure(1)", car.pressure(1), 0);
        DUE.is("bound(1, 200)", car.bound(1, 200), 1);
        for (int i = 0; i < 15; i++) {
            car.yaw(0, 100);
        }
        DUE.is("pressure(1)", car.pressure(1), 200);
    }

    private static void higherBoundLeavesThePressure() {
        GearBrake car = new GearBrake(2);
        car.bound(1, 10);
        car.step(60, 0);
        DUE.is("bound(1, 100)", car.bound(1, 100), 1);
        DUE.is("pressure(1)", car.pressure(1), 10);
        car.step(60, 0);
        DUE.is("pressure(1)", car.pressure(1), 60);
    }

    private static void refusals() {
        GearBrake car = new GearBrake(4);
        car.step(100, 0);
        for (long v : new long[] {-1, 201, Long.MIN_VALUE, Long.MAX_VALUE, 1L << 32}) {
            DUE.is("bound(1, " + v + ")", car.bound(1, v), -2);
        }
        for (int w : Cars.NO_WHEELS) {
            DUE.is("bound(" + w + ", 5)", car.bound(w, 5), -1);
            DUE.is("bound(" + w + ", 201)", car.bound(w, 201), -1);
        }
        for (int w = 1; w <= 4; w++) {
            DUE.is("pressure(" + w + ")", car.pressure(w), 100);
        }
        car.yaw(0, 100);
        DUE.is("pressure(1), still bound to 100", car.pressure(1), 100);
    }
}
