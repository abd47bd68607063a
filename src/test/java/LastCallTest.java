/** "An object is used for at most 512 calls": the last ones still answer as the first ones would. */
final class LastCallTest {
    private static final Due DUE = new Due("the last of 512 calls");
    private static final int CALLS = 512;

    public static void main(String[] args) {
        stepsAlone();
        lastCallIsAStep();
        lastCallIsASlip();
        lastCallIsRefused();
        refusalsAlone();
        DUE.end();
    }

    private static void stepsAlone() {
        DUE.by("at most 512 calls: each a STEP");
        GearBrake car = new GearBrake(8);
        for (int i = 1; i <= CALLS; i++) {
            DUE.is("step(100, 0), call " + i, car.step(100, 0), 1);
        }
    }

    private static void lastCallIsAStep() {
        DUE.by("at most 512 calls: the last two a wheel's SPEED and a STEP");
        GearBrake car = new GearBrake(2);
        Cars.steps(car, CALLS - 2, 0, 30);
        DUE.is("wheel(1, 61)", car.wheel(1, 61), 1);
        DUE.is("step(0, 30)", car.step(0, 30), 2);
    }

    private static void lastCallIsASlip() {
        DUE.by("at most 512 calls: the last a slip");
        GearBrake car = Cars.rolling(1000, 625);
        Cars.steps(car, CALLS - 4, 0, 0);
        DUE.is("slip(2, 0)", car.slip(2, 0), 3);
        DUE.is("slip(2, 1)", car.slip(2, 1), 8);
        GearBrake standing = new GearBrake(2);
        Cars.steps(standing, CALLS - 1, 100, 0);
        DUE.slipThrows(standing, 2, 0);
    }

    private static void lastCallIsRefused() {
        DUE.by("at most 512 calls: the last is refused");
        GearBrake car = new GearBrake(2);
        Cars.steps(car, CALLS - 1, 0, 0);
        DUE.is("step(101, 0)", car.step(101, 0), -2);
    }

    private static void refusalsAlone() {
        DUE.by("at most 512 calls: refused ones");
        GearBrake car = new GearBrake(2);
        for (int i = 1; i < CALLS / 2; i++) {
            DUE.is("step(-1, 0)", car.step(-1, 0), -2);
            DUE.is("bound(3, 1)", car.bound(3, 1), -1);
        }
        car.wheel(1, 31);
        DUE.is("step(0, 0)", car.step(0, 0), 2);
    }
}
