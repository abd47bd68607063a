/** Promise 2: a wheel's speed. */
final class Promise02WheelTest {
    private static final Due DUE = new Due("promise 2, wheel");

    public static void main(String[] args) {
        eachWheelHasItsOwnSpeed();
        speedIsThereAtOnce();
        edges();
        refusals();
        DUE.end();
    }

    private static void eachWheelHasItsOwnSpeed() {
        GearBrake car = new GearBrake(8);
        for (int w = 1; w <= 8; w++) {
            DUE.is("wheel(" + w + ", ..)", car.wheel(w, 100 * w), 1);
        }
        DUE.is("reference() before a step", car.reference(), 0);
        car.step(0, 0);
        DUE.is("reference()", car.reference(), 800);
        for (int w = 1; w <= 7; w++) {
            DUE.is("slip(" + w + ", 0) in eighths", car.slip(w, 0) * 8 / car.slip(w, 1), 8 - w);
        }
    }

    private static void speedIsThereAtOnce() {
        GearBrake car = Cars.withReference(100);
        car.wheel(1, 50);
        DUE.slipIs(car, 1, 1, 2);
        DUE.is("reference()", car.reference(), 100);
        DUE.isModel("plant(1)", car.plant(1), 12.5);
    }

    private static void edges() {
        GearBrake car = new GearBrake(2);
        DUE.is("wheel(1, 1000)", car.wheel(1, 1000), 1);
        car.step(0, 0);
        DUE.is("reference()", car.reference(), 1000);
        DUE.is("wheel(1, 0)", car.wheel(1, 0), 1);
        car.step(0, 0);
        DUE.is("reference()", car.reference(), 0);
    }

    private static void refusals() {
        GearBrake car = Cars.rolling(500, 0, 0, 0);
        for (long speed : new long[] {-1, 1001, -500, Long.MIN_VALUE, Long.MAX_VALUE, 1L << 32, (1L << 32) + 5}) {
            DUE.is("wheel(1, " + speed + ")", car.wheel(1, speed), -2);
        }
        for (int w : Cars.NO_WHEELS) {
            DUE.is("wheel(" + w + ", 900)", car.wheel(w, 900), -1);
            DUE.is("wheel(" + w + ", 1001)", car.wheel(w, 1001), -1);
        }
        car.step(0, 0);
        DUE.is("reference()", car.reference(), 500);
        DUE.slipIs(car, 1, 0, 1);
        DUE.slipIs(car, 4, 1, 1);
    }
}
