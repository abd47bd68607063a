/** The edges in point 3 of a STEP, the MODEL, and in plant. */
final class EdgesOfModelTest {
    private static final Due DUE = new Due("edges, point 3");

    public static void main(String[] args) {
        atFirstZero();
        followsTheLeastAndTheGreatestSpeed();
        fallsWithoutSpeed();
        lessThePressure();
        zeroIfBelowZero();
        zeroIfLittleBelowZero();
        notZeroIfAboveZero();
        pressureAfterHoldAndBound();
        notWithoutAStep();
        lostWheelsToo();
        lastBits();
        DUE.end();
    }

    private static void modelIs(GearBrake car, long pedal, double due) {
        car.step(pedal, 0);
        DUE.isModel("plant(1) after step(" + pedal + ", 0)", car.plant(1), due);
    }

    private static void atFirstZero() {
        DUE.by("a MODEL, a double, at first 0");
        for (int wheels = 2; wheels <= 8; wheels++) {
            GearBrake car = new GearBrake(wheels);
            for (int w = 1; w <= wheels; w++) {
                DUE.isModel("plant(" + w + ")", car.plant(w), 0.0);
            }
        }
    }

    private static void followsTheLeastAndTheGreatestSpeed() {
        DUE.by("x + 0.125 * (SPEED - x)");
        for (long speed : new long[] {0, 1, 2, 7, 8, 999, 1000}) {
            modelIs(Cars.rolling(speed, 0), 0, speed / 8.0);
        }
        GearBrake car = Cars.rolling(1000, 1000);
        double due = 0.0;
        for (int i = 0; i < 100; i++) {
            due = due + (1000 - due) / 8.0;
            modelIs(car, 0, due);
        }
        DUE.isTrue("it is not above the speed", car.plant(1) <= 1000.0);
    }

    private static void fallsWithoutSpeed() {
        DUE.by("x + 0.125 * (SPEED - x): SPEED below x");
        GearBrake car = Cars.rolling(1000, 0);
        modelIs(car, 0, 125.0);
        car.wheel(1, 0);
        modelIs(car, 0, 109.375);
        modelIs(car, 0, 95.703125);
        car.wheel(1, 95);
        modelIs(car, 0, 95.615234375);
    }

    private static void lessThePressure() {
        DUE.by("then less 0.0625 * PRESSURE");
        for (long pedal : new long[] {0, 1, 2, 16, 99, 100}) {
            modelIs(Cars.rolling(1000, 1000), pedal, 125.0 - pedal / 16.0);
        }
    }

    private static void zeroIfBelowZero() {
        DUE.by("then 0 if it is below 0");
        for (long pedal : new long[] {16, 17, 18, 99, 100}) {
            GearBrake car = Cars.rolling(8, 8);
            modelIs(car, pedal, 0.0);
            modelIs(car, 0, 1.0);
        }
        modelIs(new GearBrake(2), 1, 0.0);
        modelIs(new GearBrake(2), 100, 0.0);
    }

    /** 0.0625 less its eighth, less 0.0625 again: the least that the model can come below 0 from there. */
    private static void zeroIfLittleBelowZero() {
        DUE.by("then 0 if it is below 0: by little");
        GearBrake car = Cars.rolling(1, 1);
        car.lost(1, true);
        modelIs(car, 1, 0.0625);
        car.wheel(1, 0);
        modelIs(car, 1, 0.0);
        modelIs(car, 0, 0.0);
    }

    private static void notZeroIfAboveZero() {
        DUE.by("then 0 if it is below 0: it is above");
        modelIs(Cars.rolling(8, 8), 15, 0.0625);
        modelIs(Cars.rolling(1, 1), 1, 0.0625);
        modelIs(Cars.rolling(1, 1), 0, 0.125);
        GearBrake small = Cars.rolling(1, 1);
        modelIs(small, 1, 0.0625);
        small.wheel(1, 0);
        modelIs(small, 0, 0.0546875);
    }

    private static void pressureAfterHoldAndBound() {
        DUE.by("PRESSURE: that of this STEP, after HOLD and BOUND");
        GearBrake held = Cars.rolling(20, 20);
        held.hold(true);
        modelIs(held, 0, 2.5 - 30 / 16.0);
        GearBrake bound = Cars.rolling(1000, 1000);
        bound.bound(1, 8);
        modelIs(bound, 100, 125.0 - 0.5);
        GearBrake pressed = Cars.rolling(1000, 1000);
        pressed.yaw(0, 100);
        modelIs(pressed, 0, 125.0);
        GearBrake slipping = Cars.rolling(100, 200);
        modelIs(slipping, 80, 12.5);
    }

    private static void notWithoutAStep() {
        DUE.by("A STEP .. 3 Its MODEL: no other call");
        GearBrake car = Cars.rolling(1000, 1000);
        modelIs(car, 16, 124.0);
        car.wheel(1, 0);
        car.bound(1, 0);
        car.yaw(100, 0);
        car.lost(1, true);
        car.hold(true);
        car.wish(1);
        car.step(101, 0);
        car.step(0, 31);
        DUE.isModel("plant(1)", car.plant(1), 124.0);
    }

    private static void lostWheelsToo() {
        DUE.by("Each wheel .. Its MODEL: LOST ones too");
        GearBrake car = Cars.rolling(800, 400);
        car.lost(1, true);
        modelIs(car, 16, 99.0);
        DUE.isModel("plant(2)", car.plant(2), 49.0);
    }

    /** Numbers with long fractions, where another order of the operations gives other last bits. */
    private static void lastBits() {
        DUE.by("by doubles in this order");
        GearBrake car = Cars.rolling(997, 1000);
        car.lost(1, true);
        double x = 0.0;
        for (int i = 0; i < 150; i++) {
            long speed = (997 + 389L * i) % 1001;
            long pedal = 11L * i % 101;
            car.wheel(1, speed);
            double next = x + 0.125 * (speed - x);
            next = next - 0.0625 * pedal;
            x = next < 0.0 ? 0.0 : next;
            modelIs(car, pedal, x);
        }
    }
}
