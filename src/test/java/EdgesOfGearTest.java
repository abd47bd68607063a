/** The edges in point 5 of a STEP, the GEAR. */
final class EdgesOfGearTest {
    private static final Due DUE = new Due("edges, point 5");

    public static void main(String[] args) {
        atFirstAtOnce();
        atFirstAtOnceLater();
        upAboveTheLine();
        upAboveTheLineUphill();
        upAboveTheLineDownhill();
        notAboveSix();
        downBelowTheLine();
        downWhateverTheSlope();
        notBelowOne();
        oneGearAtATime();
        threeStepsAfterUp();
        threeStepsAfterDown();
        restCountsFromTheLastChange();
        threeStepsWithoutAChangeAreNoChange();
        restLateInALife();
        DUE.end();
    }

    /** A car that was wished into this gear at a reference that keeps it, more than 10 steps ago. */
    private static GearBrake inGear(int gear) {
        GearBrake car = Cars.withReference(20 * gear);
        DUE.is("wish(" + gear + ")", car.wish(gear), 1);
        Cars.steps(car, 11, 0, 0);
        DUE.is("gear()", car.gear(), gear);
        return car;
    }

    private static void gearIs(GearBrake car, long speed, long slope, int due) {
        car.wheel(1, speed);
        car.wheel(2, speed);
        DUE.is("step(0, " + slope + ") at " + speed, car.step(0, slope), due);
        DUE.is("gear()", car.gear(), due);
    }

    private static void atFirstAtOnce() {
        DUE.by("at first at once");
        gearIs(new GearBrake(2), 30, 0, 1);
        gearIs(new GearBrake(2), 31, 0, 2);
        gearIs(new GearBrake(2), 1000, 0, 2);
    }

    private static void atFirstAtOnceLater() {
        DUE.by("at first at once: in any STEP");
        for (int before = 1; before <= 4; before++) {
            GearBrake car = new GearBrake(2);
            for (int i = 0; i < before; i++) {
                gearIs(car, 30, 0, 1);
            }
            gearIs(car, 31, 0, 2);
        }
    }

    private static void upAboveTheLine() {
        DUE.by("one more, if g is below 6 and the REFERENCE is above 20 g + 10");
        for (int gear = 1; gear <= 5; gear++) {
            gearIs(inGear(gear), 20 * gear + 9, 0, gear);
            gearIs(inGear(gear), 20 * gear + 10, 0, gear);
            gearIs(inGear(gear), 20 * gear + 11, 0, gear + 1);
            gearIs(inGear(gear), 1000, 0, gear + 1);
        }
    }

    private static void upAboveTheLineUphill() {
        DUE.by("(SLOPE if that is above 0): it is above");
        for (int gear = 1; gear <= 5; gear++) {
            for (long slope : new long[] {1, 2, 29, 30}) {
                gearIs(inGear(gear), 20 * gear + 10 + slope, slope, gear);
                gearIs(inGear(gear), 20 * gear + 11 + slope, slope, gear + 1);
            }
        }
    }

    private static void upAboveTheLineDownhill() {
        DUE.by("(SLOPE if that is above 0): it is not");
        for (int gear = 1; gear <= 5; gear++) {
            for (long slope : new long[] {0, -1, -2, -29, -30}) {
                gearIs(inGear(gear), 20 * gear + 10, slope, gear);
                gearIs(inGear(gear), 20 * gear + 11, slope, gear + 1);
            }
        }
    }

    private static void notAboveSix() {
        DUE.by("if g is below 6: it is 6");
        for (long slope : new long[] {-30, 0, 30}) {
            GearBrake car = inGear(6);
            for (long speed : new long[] {130, 131, 132, 150, 151, 160, 161, 999, 1000}) {
                gearIs(car, speed, slope, 6);
            }
        }
    }

    private static void downBelowTheLine() {
        DUE.by("otherwise one less, if g is above 1 and the REFERENCE is below 20 (g - 1)");
        for (int gear = 2; gear <= 6; gear++) {
            gearIs(inGear(gear), 20 * (gear - 1) + 1, 0, gear);
            gearIs(inGear(gear), 20 * (gear - 1), 0, gear);
            gearIs(inGear(gear), 20 * (gear - 1) - 1, 0, gear - 1);
            gearIs(inGear(gear), 0, 0, gear - 1);
        }
    }

    private static void downWhateverTheSlope() {
        DUE.by("the REFERENCE is below 20 (g - 1): with a SLOPE");
        for (int gear = 2; gear <= 6; gear++) {
            for (long slope : new long[] {-30, -1, 1, 30}) {
                gearIs(inGear(gear), 20 * (gear - 1), slope, gear);
                gearIs(inGear(gear), 20 * (gear - 1) - 1, slope, gear - 1);
            }
        }
    }

    private static void notBelowOne() {
        DUE.by("if g is above 1: it is 1");
        for (long slope : new long[] {-30, 0, 30}) {
            GearBrake car = inGear(1);
            for (long speed : new long[] {20, 19, 10, 1, 0}) {
                gearIs(car, speed, slope, 1);
            }
        }
    }

    private static void oneGearAtATime() {
        DUE.by("one more, one less");
        gearIs(inGear(1), 1000, 0, 2);
        gearIs(inGear(6), 0, 0, 5);
    }

    private static void threeStepsAfterUp() {
        DUE.by("one in STEP n: STEP n + 3 and on: up");
        for (int gear = 1; gear <= 4; gear++) {
            GearBrake car = inGear(gear);
            gearIs(car, 1000, 0, gear + 1);
            gearIs(car, 1000, 0, gear + 1);
            gearIs(car, 0, 0, gear + 1);
            gearIs(car, 1000, 0, gear + 2);
        }
    }

    private static void threeStepsAfterDown() {
        DUE.by("one in STEP n: STEP n + 3 and on: down");
        for (int gear = 6; gear >= 3; gear--) {
            GearBrake car = inGear(gear);
            gearIs(car, 0, 0, gear - 1);
            gearIs(car, 1000, 0, gear - 1);
            gearIs(car, 0, 0, gear - 1);
            gearIs(car, 0, 0, gear - 2);
        }
    }

    private static void restCountsFromTheLastChange() {
        DUE.by("if the last change of it is 3 STEPS back or more: the last");
        GearBrake car = new GearBrake(2);
        gearIs(car, 1000, 0, 2);
        gearIs(car, 1000, 0, 2);
        gearIs(car, 1000, 0, 2);
        gearIs(car, 1000, 0, 3);
        gearIs(car, 0, 0, 3);
        gearIs(car, 0, 0, 3);
        gearIs(car, 0, 0, 2);
        gearIs(car, 1000, 0, 2);
        gearIs(car, 1000, 0, 2);
        gearIs(car, 50, 0, 2);
        gearIs(car, 51, 0, 3);
    }

    private static void threeStepsWithoutAChangeAreNoChange() {
        DUE.by("the last change of it is 3 STEPS back or more: more");
        for (int more = 0; more <= 6; more++) {
            GearBrake car = new GearBrake(2);
            gearIs(car, 31, 0, 2);
            for (int i = 0; i < 2 + more; i++) {
                gearIs(car, 31, 0, 2);
            }
            gearIs(car, 51, 0, 3);
        }
    }

    /** Up and down for 420 steps: the rest is the same in an object's last calls. */
    private static void restLateInALife() {
        DUE.by("one in STEP n: STEP n + 3 and on: for every n");
        GearBrake car = Cars.rolling(1000, 1000);
        int gear = 1;
        for (int n = 1; n <= 420; n++) {
            boolean up = (n - 1) / 15 % 2 == 0;
            if (n % 15 == 1) {
                car.wheel(1, up ? 1000 : 0);
                car.lost(2, !up);
            }
            gear += n % 3 != 1 ? 0 : up ? 1 : -1;
            DUE.is("step(0, 0), the " + n + "th", car.step(0, 0), gear);
        }
    }
}
