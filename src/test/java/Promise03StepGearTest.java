/** Promise 3: rule 5 of a step, the gears by their lines and their hold. */
final class Promise03StepGearTest {
    private static final Due DUE = new Due("promise 3, step: gears");

    public static void main(String[] args) {
        for (int gear = 1; gear <= 5; gear++) {
            upLine(gear);
        }
        for (int gear = 2; gear <= 6; gear++) {
            downLine(gear);
        }
        slopeOnlyUphill();
        ends();
        threeStepsBetweenChanges();
        changesAtOnceAtFirst();
        holdIsFromTheLastChange();
        DUE.end();
    }

    /** A car in this gear, at a reference that keeps it, long enough after the change. */
    private static GearBrake inGear(int gear) {
        GearBrake car = new GearBrake(2);
        for (int g = 2; g <= gear; g++) {
            car.wheel(1, 20 * (g - 1) + 11);
            Cars.steps(car, 3, 0, 0);
        }
        car.wheel(1, 20 * (gear - 1));
        Cars.steps(car, 4, 0, 0);
        DUE.is("gear() at the start", car.gear(), gear);
        return car;
    }

    private static void upLine(int gear) {
        GearBrake car = inGear(gear);
        car.wheel(1, 20 * gear + 10);
        DUE.is("step(0, 0) on the line above " + gear, car.step(0, 0), gear);
        car.wheel(1, 20 * gear + 11);
        DUE.is("step(0, 0) above the line above " + gear, car.step(0, 0), gear + 1);
        DUE.is("gear()", car.gear(), gear + 1);
    }

    private static void downLine(int gear) {
        GearBrake car = inGear(gear);
        DUE.is("step(0, 0) on the line below " + gear, car.step(0, 0), gear);
        car.wheel(1, 20 * (gear - 1) - 1);
        DUE.is("step(0, 0) below the line below " + gear, car.step(0, 0), gear - 1);
        DUE.is("gear()", car.gear(), gear - 1);
    }

    private static void slopeOnlyUphill() {
        GearBrake car = inGear(2);
        car.wheel(1, 80);
        DUE.is("step(0, 30)", car.step(0, 30), 2);
        car.wheel(1, 50);
        DUE.is("step(0, -1)", car.step(0, -1), 2);
        DUE.is("step(0, -30)", car.step(0, -30), 2);
        car.wheel(1, 51);
        DUE.is("step(0, 1)", car.step(0, 1), 2);
        DUE.is("step(0, -30)", car.step(0, -30), 3);

        GearBrake climbing = inGear(2);
        climbing.wheel(1, 81);
        DUE.is("step(0, 30)", climbing.step(0, 30), 3);

        GearBrake falling = inGear(3);
        falling.wheel(1, 40);
        DUE.is("step(0, 30)", falling.step(0, 30), 3);
        DUE.is("step(0, -30)", falling.step(0, -30), 3);
        falling.wheel(1, 39);
        DUE.is("step(0, 30)", falling.step(0, 30), 2);
    }

    private static void ends() {
        GearBrake car = inGear(6);
        car.wheel(1, 1000);
        Cars.steps(car, 10, 0, 0);
        DUE.is("gear()", car.gear(), 6);
        GearBrake slow = inGear(1);
        slow.wheel(1, 0);
        Cars.steps(slow, 10, 0, 0);
        DUE.is("gear()", slow.gear(), 1);
    }

    private static void threeStepsBetweenChanges() {
        GearBrake car = Cars.rolling(1000, 1000);
        int[] up = {2, 2, 2, 3, 3, 3, 4, 4, 4, 5, 5, 5, 6, 6, 6, 6};
        for (int i = 0; i < up.length; i++) {
            DUE.is("step(0, 0), number " + (i + 1), car.step(0, 0), up[i]);
        }
        car.wheel(1, 0);
        car.wheel(2, 0);
        int[] down = {5, 5, 5, 4, 4, 4, 3, 3, 3, 2, 2, 2, 1, 1, 1, 1};
        for (int i = 0; i < down.length; i++) {
            DUE.is("step(0, 0), falling, number " + (i + 1), car.step(0, 0), down[i]);
        }
    }

    private static void changesAtOnceAtFirst() {
        GearBrake car = Cars.rolling(31, 0);
        DUE.is("step(0, 0)", car.step(0, 0), 2);
        GearBrake line = Cars.rolling(30, 0);
        DUE.is("step(0, 0)", line.step(0, 0), 1);
        line.wheel(1, 31);
        DUE.is("step(0, 0)", line.step(0, 0), 2);
    }

    private static void holdIsFromTheLastChange() {
        GearBrake car = Cars.rolling(1000, 0);
        DUE.is("step(0, 0), up", car.step(0, 0), 2);
        car.wheel(1, 0);
        DUE.is("step(0, 0), held", car.step(0, 0), 2);
        DUE.is("step(0, 0), held", car.step(0, 0), 2);
        DUE.is("step(0, 0), down", car.step(0, 0), 1);
        car.wheel(1, 1000);
        DUE.is("step(0, 0), held", car.step(0, 0), 1);
        DUE.is("step(0, 0), held", car.step(0, 0), 1);
        DUE.is("step(0, 0), up", car.step(0, 0), 2);
    }
}
