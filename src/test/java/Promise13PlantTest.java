/** Promise 13: the model of a wheel, and rule 3 of a step that makes it. */
final class Promise13PlantTest {
    private static final Due DUE = new Due("promise 13, plant");

    public static void main(String[] args) {
        followsTheSpeed();
        isBraked();
        isNotBelowZero();
        takesThePressureOfThisStep();
        operationsInTheirOrder();
        noWheel();
        DUE.end();
    }

    private static void followsTheSpeed() {
        GearBrake car = Cars.rolling(1000, 8);
        car.step(0, 0);
        DUE.isModel("plant(1)", car.plant(1), 125.0);
        DUE.isModel("plant(2)", car.plant(2), 1.0);
        car.step(0, 0);
        DUE.isModel("plant(1)", car.plant(1), 234.375);
        DUE.isModel("plant(2)", car.plant(2), 1.875);
        car.wheel(1, 0);
        DUE.isModel("plant(1) before the step", car.plant(1), 234.375);
        car.step(0, 0);
        DUE.isModel("plant(1)", car.plant(1), 205.078125);
    }

    private static void isBraked() {
        GearBrake car = Cars.rolling(1000, 1000);
        car.step(40, 0);
        DUE.isModel("plant(1)", car.plant(1), 122.5);
        car.step(1, 0);
        DUE.isModel("plant(1)", car.plant(1), 122.5 + 109.6875 - 0.0625);
    }

    private static void isNotBelowZero() {
        GearBrake car = Cars.rolling(8, 8);
        car.step(16, 0);
        DUE.isModel("plant(1)", car.plant(1), 0.0);
        car.step(17, 0);
        DUE.isModel("plant(1)", car.plant(1), 0.0);
        DUE.isTrue("no zero below zero", 1.0 / car.plant(1) > 0.0);
        car.step(15, 0);
        DUE.isModel("plant(1)", car.plant(1), 0.0625);
    }

    private static void takesThePressureOfThisStep() {
        GearBrake car = new GearBrake(2);
        car.wheel(1, 20);
        car.hold(true);
        car.bound(2, 4);
        car.wheel(2, 20);
        car.step(8, 0);
        DUE.isModel("plant(1), held at 30", car.plant(1), 2.5 - 1.875);
        DUE.isModel("plant(2), bound to 4", car.plant(2), 2.5 - 0.25);
    }

    /** Long runs reach numbers that must be rounded, where another order gives other last bits. */
    private static void operationsInTheirOrder() {
        GearBrake car = Cars.rolling(997, 1000);
        car.lost(1, true);
        double model = 0.0;
        for (int i = 0; i < 160; i++) {
            long speed = (997 + 389L * i) % 1001;
            long pedal = 7L * i % 41;
            car.wheel(1, speed);
            car.step(pedal, 0);
            double difference = speed - model;
            double pull = 0.125 * difference;
            double pulled = model + pull;
            double brake = 0.0625 * pedal;
            model = pulled - brake < 0 ? 0 : pulled - brake;
            DUE.isModel("plant(1), step " + (i + 1), car.plant(1), model);
        }
    }

    private static void noWheel() {
        GearBrake car = Cars.rolling(100, 100, 100, 100);
        car.step(0, 0);
        for (int w : Cars.NO_WHEELS) {
            DUE.isModel("plant(" + w + ")", car.plant(w), 0.0);
        }
        DUE.isModel("plant(4)", car.plant(4), 12.5);
    }
}
