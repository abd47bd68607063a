/** The edges in slip. */
final class EdgesOfSlipTest {
    private static final Due DUE = new Due("edges, slip");
    private static final int[] OTHER_SIDES = {1, 2, -1, -2, 256, 65536, 1 << 30, Integer.MIN_VALUE, Integer.MAX_VALUE};

    public static void main(String[] args) {
        throwsWhenTheReferenceIsZero();
        throwsNotFromOneOn();
        throwsAgainAtZero();
        noWheelComesFirst();
        sideZeroIsAbove();
        othersAreBelow();
        nothingAbove();
        allAbove();
        lessThanNothing();
        lowestTerms();
        lowestTermsBelowZero();
        lostWheelsToo();
        everyPairOfSmallOnes();
        DUE.end();
    }

    /** The slip of wheel 1 at this speed. */
    private static void slipIs(long reference, long speed, long above, long below) {
        GearBrake car = Cars.withReference(reference);
        car.wheel(1, speed);
        DUE.is("slip(1, 0), " + speed + " at " + reference, car.slip(1, 0), above);
        DUE.is("slip(1, 1), " + speed + " at " + reference, car.slip(1, 1), below);
    }

    private static void throwsForEachSide(GearBrake car, int w) {
        DUE.slipThrows(car, w, 0);
        for (int side : OTHER_SIDES) {
            DUE.slipThrows(car, w, side);
        }
    }

    private static void throwsWhenTheReferenceIsZero() {
        DUE.by("ArithmeticException when the REFERENCE is 0");
        for (int wheels = 2; wheels <= 8; wheels++) {
            GearBrake car = new GearBrake(wheels);
            throwsForEachSide(car, 1);
            throwsForEachSide(car, wheels);
        }
        GearBrake fast = Cars.rolling(1000, 0);
        throwsForEachSide(fast, 1);
        throwsForEachSide(fast, 2);
    }

    private static void throwsNotFromOneOn() {
        DUE.by("ArithmeticException when the REFERENCE is 0: it is not");
        slipIs(1, 1, 0, 1);
        slipIs(1, 0, 1, 1);
        slipIs(1, 2, -1, 1);
        slipIs(1000, 1000, 0, 1);
    }

    private static void throwsAgainAtZero() {
        DUE.by("ArithmeticException when the REFERENCE is 0: again");
        GearBrake car = Cars.withReference(4);
        car.wheel(1, 0);
        car.wheel(2, 0);
        car.step(1, 0);
        DUE.slipIs(car, 1, 1, 1);
        car.step(1, 0);
        throwsForEachSide(car, 1);
        DUE.is("reference()", car.reference(), 0);
        DUE.is("slip(3, 0)", car.slip(3, 0), 0);
    }

    private static void noWheelComesFirst() {
        DUE.by("0 if there is no wheel; otherwise ArithmeticException");
        for (int wheels = 2; wheels <= 8; wheels++) {
            GearBrake car = new GearBrake(wheels);
            for (int w : new Range(1, wheels).outsideInts()) {
                DUE.is("slip(" + w + ", 0)", car.slip(w, 0), 0);
                DUE.is("slip(" + w + ", 1)", car.slip(w, 1), 0);
            }
        }
    }

    private static void sideZeroIsAbove() {
        DUE.by("side 0 what is above");
        slipIs(100, 60, 2, 5);
        slipIs(100, 99, 1, 100);
        slipIs(100, 1, 99, 100);
    }

    private static void othersAreBelow() {
        DUE.by("others what is below");
        GearBrake car = Cars.withReference(100);
        car.wheel(1, 60);
        for (int side : OTHER_SIDES) {
            DUE.is("slip(1, " + side + ")", car.slip(1, side), 5);
        }
    }

    private static void nothingAbove() {
        DUE.by("in lowest terms: 0 above");
        for (long reference : new long[] {1, 2, 3, 100, 999, 1000}) {
            slipIs(reference, reference, 0, 1);
        }
    }

    private static void allAbove() {
        DUE.by("in lowest terms: SPEED 0");
        for (long reference : new long[] {1, 2, 3, 100, 999, 1000}) {
            slipIs(reference, 0, 1, 1);
        }
    }

    private static void lessThanNothing() {
        DUE.by("what is below above 0: SPEED above the REFERENCE");
        slipIs(1, 1000, -999, 1);
        slipIs(999, 1000, -1, 999);
        slipIs(500, 1000, -1, 1);
        slipIs(501, 1000, -499, 501);
        slipIs(100, 102, -1, 50);
        slipIs(100, 101, -1, 100);
    }

    private static void lowestTerms() {
        DUE.by("in lowest terms");
        slipIs(1000, 999, 1, 1000);
        slipIs(1000, 1, 999, 1000);
        slipIs(1000, 500, 1, 2);
        slipIs(1000, 488, 64, 125);
        slipIs(997, 13, 984, 997);
        slipIs(987, 377, 610, 987);
        slipIs(960, 420, 9, 16);
        slipIs(6, 2, 2, 3);
        slipIs(6, 3, 1, 2);
        slipIs(6, 5, 1, 6);
    }

    private static void lowestTermsBelowZero() {
        DUE.by("in lowest terms: SPEED above the REFERENCE");
        slipIs(6, 8, -1, 3);
        slipIs(6, 9, -1, 2);
        slipIs(6, 18, -2, 1);
        slipIs(6, 10, -2, 3);
        slipIs(377, 987, -610, 377);
    }

    private static void lostWheelsToo() {
        DUE.by("(REFERENCE - SPEED) / REFERENCE of a wheel: a LOST one");
        GearBrake car = Cars.rolling(90, 60);
        car.lost(1, true);
        car.step(0, 0);
        DUE.slipIs(car, 1, -1, 2);
        DUE.slipIs(car, 2, 0, 1);
    }

    private static boolean isLowest(long above, long below) {
        for (long d = 2; d <= below; d++) {
            if (above % d == 0 && below % d == 0) {
                return false;
            }
        }
        return below > 0;
    }

    private static void everyPairOfSmallOnes() {
        DUE.by("in lowest terms, what is below above 0");
        for (int reference = 1; reference <= 60; reference++) {
            GearBrake car = Cars.withReference(reference);
            for (int speed = 0; speed <= 150; speed++) {
                car.wheel(1, speed);
                long above = car.slip(1, 0);
                long below = car.slip(1, 1);
                String what = above + " / " + below + " for " + speed + " at " + reference;
                DUE.isTrue(what + ": its worth", above * reference == (reference - speed) * below);
                DUE.isTrue(what + ": lowest", isLowest(above, below));
            }
        }
    }
}
