/** Promise 10: holding on a slope. */
final class Promise10HoldTest {
    private static final Due DUE = new Due("promise 10, hold");

    public static void main(String[] args) {
        comesAtRest();
        comesNotWhileRolling();
        staysWhileRollingSlowly();
        isNotRemembered();
        followsTheReferenceAndNotTheSpeed();
        DUE.end();
    }

    private static void comesAtRest() {
        GearBrake car = new GearBrake(2);
        DUE.is("hold(false)", car.hold(false), 0);
        DUE.is("hold(true)", car.hold(true), 1);
        DUE.is("hold(true) again", car.hold(true), 1);
        DUE.is("mode()", car.mode(), 2);
        DUE.is("pressure(1) before a step", car.pressure(1), 0);
        DUE.is("hold(false)", car.hold(false), 0);
        DUE.is("mode()", car.mode(), 0);
        car.step(0, 0);
        DUE.is("pressure(1)", car.pressure(1), 0);
    }

    private static void comesNotWhileRolling() {
        for (long reference : new long[] {1, 20, 21, 1000}) {
            GearBrake car = Cars.withReference(reference);
            DUE.is("hold(true) at " + reference, car.hold(true), 0);
            DUE.is("mode() at " + reference, car.mode(), 0);
        }
    }

    private static void staysWhileRollingSlowly() {
        GearBrake car = new GearBrake(2);
        car.hold(true);
        car.wheel(1, 20);
        car.step(0, 0);
        DUE.is("hold(true) at 20", car.hold(true), 1);
        DUE.is("hold(false) at 20", car.hold(false), 0);
        DUE.is("hold(true) at 20, none there", car.hold(true), 0);
    }

    private static void isNotRemembered() {
        GearBrake car = Cars.withReference(10);
        DUE.is("hold(true)", car.hold(true), 0);
        car.wheel(1, 0);
        car.wheel(2, 0);
        Cars.steps(car, 2, 0, 0);
        DUE.is("mode() at rest", car.mode(), 0);
        DUE.is("pressure(1)", car.pressure(1), 0);
        DUE.is("hold(true) at rest", car.hold(true), 1);
    }

    private static void followsTheReferenceAndNotTheSpeed() {
        GearBrake car = new GearBrake(2);
        car.wheel(1, 500);
        DUE.is("hold(true) before the step", car.hold(true), 1);
        car.step(0, 0);
        DUE.is("mode()", car.mode(), 0);
        car.wheel(1, 0);
        DUE.is("hold(true) before the step", car.hold(true), 0);
    }
}
