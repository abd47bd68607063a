/** Promise 9: sensors that are lost. */
final class Promise09LostTest {
    private static final Due DUE = new Due("promise 9, lost");

    public static void main(String[] args) {
        counts();
        refusals();
        speedIsKept();
        lostWheelsHaveModelAndSlip();
        DUE.end();
    }

    private static void counts() {
        GearBrake car = new GearBrake(8);
        DUE.is("lost(3, false)", car.lost(3, false), 0);
        for (int w = 1; w <= 8; w++) {
            DUE.is("lost(" + w + ", true)", car.lost(w, true), w);
            DUE.is("lost(" + w + ", true) again", car.lost(w, true), w);
        }
        for (int w = 1; w <= 8; w++) {
            DUE.is("lost(" + w + ", false)", car.lost(w, false), 8 - w);
            DUE.is("lost(" + w + ", false) again", car.lost(w, false), 8 - w);
        }
    }

    private static void refusals() {
        GearBrake car = new GearBrake(4);
        for (int w : Cars.NO_WHEELS) {
            DUE.is("lost(" + w + ", true)", car.lost(w, true), -1);
            DUE.is("lost(" + w + ", false)", car.lost(w, false), -1);
        }
        DUE.is("mode()", car.mode(), 0);
        DUE.is("lost(4, true)", car.lost(4, true), 1);
        car.lost(0, false);
        DUE.is("mode()", car.mode(), 1);
    }

    private static void speedIsKept() {
        GearBrake car = Cars.rolling(100, 40);
        car.lost(1, true);
        car.wheel(1, 90);
        car.step(0, 0);
        DUE.is("reference()", car.reference(), 40);
        car.lost(1, false);
        DUE.is("reference() before the step", car.reference(), 40);
        car.step(0, 0);
        DUE.is("reference()", car.reference(), 90);
    }

    private static void lostWheelsHaveModelAndSlip() {
        GearBrake car = Cars.rolling(100, 40);
        car.lost(1, true);
        car.step(16, 0);
        DUE.wheelIs(car, 1, Cars.FREE, 16);
        DUE.isModel("plant(1)", car.plant(1), 11.5);
        DUE.slipIs(car, 1, -3, 2);
    }
}
