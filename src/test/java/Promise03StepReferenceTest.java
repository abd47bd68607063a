/** Promise 3: what a step refuses, and its rule 1, the reference. */
final class Promise03StepReferenceTest {
    private static final Due DUE = new Due("promise 3, step: refusals and reference");

    public static void main(String[] args) {
        edgesAreTaken();
        refusals();
        refusedStepsAreNoTime();
        withoutPedalItFollows();
        withPedalItFallsByThree();
        lostWheelsDoNotCount();
        withoutWheelsItFallsByThree();
        itDoesNotFallBelowZero();
        DUE.end();
    }

    private static void edgesAreTaken() {
        GearBrake car = new GearBrake(2);
        DUE.is("step(0, -30)", car.step(0, -30), 1);
        DUE.is("step(0, 30)", car.step(0, 30), 1);
        DUE.is("step(100, 30)", car.step(100, 30), 1);
        DUE.is("step(100, -30)", car.step(100, -30), 1);
        DUE.is("pressure(1)", car.pressure(1), 100);
    }

    private static void refusals() {
        GearBrake car = Cars.rolling(100, 100);
        car.step(50, 0);
        car.wheel(1, 900);
        for (long pedal : new long[] {-1, 101, Long.MIN_VALUE, Long.MAX_VALUE, 1L << 32}) {
            DUE.is("step(" + pedal + ", 0)", car.step(pedal, 0), -2);
        }
        for (long slope : new long[] {-31, 31, Long.MIN_VALUE, Long.MAX_VALUE, 1L << 32}) {
            DUE.is("step(50, " + slope + ")", car.step(50, slope), -2);
        }
        DUE.is("step(101, 31)", car.step(101, 31), -2);
        DUE.is("reference()", car.reference(), 100);
        DUE.is("gear()", car.gear(), 2);
        DUE.wheelIs(car, 1, Cars.FREE, 50);
        DUE.isModel("plant(1)", car.plant(1), 9.375);
    }

    private static void refusedStepsAreNoTime() {
        GearBrake car = Cars.rolling(1000, 1000);
        DUE.is("step(0, 0)", car.step(0, 0), 2);
        for (int i = 0; i < 5; i++) {
            DUE.is("step(0, 31)", car.step(0, 31), -2);
        }
        DUE.is("step(0, 0), the second", car.step(0, 0), 2);
        DUE.is("step(0, 0), the third", car.step(0, 0), 2);
        DUE.is("step(0, 0), the fourth", car.step(0, 0), 3);
    }

    private static void withoutPedalItFollows() {
        GearBrake car = Cars.rolling(10, 40, 30);
        car.step(0, 0);
        DUE.is("reference()", car.reference(), 40);
        car.wheel(2, 5);
        DUE.is("reference() before the step", car.reference(), 40);
        car.step(0, 0);
        DUE.is("reference()", car.reference(), 30);
        car.wheel(1, 999);
        car.step(0, 0);
        DUE.is("reference()", car.reference(), 999);
    }

    private static void withPedalItFallsByThree() {
        GearBrake car = Cars.withReference(40);
        car.wheel(1, 38);
        car.wheel(2, 30);
        car.step(1, 0);
        DUE.is("reference(), the wheel is above 37", car.reference(), 38);
        car.wheel(1, 35);
        car.step(1, 0);
        DUE.is("reference(), the wheel is at 35", car.reference(), 35);
        car.wheel(1, 31);
        car.step(1, 0);
        DUE.is("reference(), the wheel is below 32", car.reference(), 32);
        car.wheel(1, 700);
        car.step(100, 0);
        DUE.is("reference(), the wheel is far above", car.reference(), 700);
        car.wheel(1, 0);
        car.step(0, 0);
        DUE.is("reference() without the pedal", car.reference(), 30);
    }

    private static void lostWheelsDoNotCount() {
        GearBrake car = Cars.rolling(100, 60, 80);
        car.lost(1, true);
        car.step(0, 0);
        DUE.is("reference()", car.reference(), 80);
        car.lost(3, true);
        car.step(0, 0);
        DUE.is("reference()", car.reference(), 60);
        car.lost(3, false);
        car.lost(1, false);
        car.step(0, 0);
        DUE.is("reference()", car.reference(), 100);
    }

    private static void withoutWheelsItFallsByThree() {
        GearBrake car = Cars.withReference(10);
        car.lost(1, true);
        car.lost(2, true);
        car.wheel(1, 1000);
        car.step(0, 0);
        DUE.is("reference() without a wheel, no pedal", car.reference(), 7);
        car.step(60, 0);
        DUE.is("reference() without a wheel, pedal", car.reference(), 4);
        car.step(0, 0);
        car.step(0, 0);
        DUE.is("reference() without a wheel, at the end", car.reference(), 0);
        car.lost(1, false);
        car.step(0, 0);
        DUE.is("reference() with a wheel again", car.reference(), 1000);
    }

    private static void itDoesNotFallBelowZero() {
        GearBrake car = Cars.withReference(2);
        car.wheel(1, 0);
        car.wheel(2, 0);
        car.step(50, 0);
        DUE.is("reference()", car.reference(), 0);
        car.step(50, 0);
        DUE.is("reference()", car.reference(), 0);
    }
}
