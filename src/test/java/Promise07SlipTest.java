/** Promise 7: the slip in lowest terms. */
final class Promise07SlipTest {
    private static final Due DUE = new Due("promise 7, slip");

    public static void main(String[] args) {
        lowestTerms();
        aboveTheReference();
        everySideButZeroIsBelow();
        withoutReference();
        allSmallOnes();
        DUE.end();
    }

    private static void lowestTerms() {
        GearBrake car = Cars.rolling(1000, 0, 999, 500, 360, 125, 875, 2);
        car.step(0, 0);
        DUE.slipIs(car, 1, 0, 1);
        DUE.slipIs(car, 2, 1, 1);
        DUE.slipIs(car, 3, 1, 1000);
        DUE.slipIs(car, 4, 1, 2);
        DUE.slipIs(car, 5, 16, 25);
        DUE.slipIs(car, 6, 7, 8);
        DUE.slipIs(car, 7, 1, 8);
        DUE.slipIs(car, 8, 499, 500);
    }

    private static void aboveTheReference() {
        GearBrake car = Cars.withReference(100);
        car.wheel(1, 150);
        car.wheel(2, 1000);
        DUE.slipIs(car, 1, -1, 2);
        DUE.slipIs(car, 2, -9, 1);
        GearBrake slow = Cars.withReference(1);
        slow.wheel(1, 1000);
        DUE.slipIs(slow, 1, -999, 1);
        DUE.slipIs(slow, 2, 0, 1);
    }

    private static void everySideButZeroIsBelow() {
        GearBrake car = Cars.withReference(100);
        car.wheel(1, 60);
        DUE.is("slip(1, 0)", car.slip(1, 0), 2);
        for (int side : new int[] {1, 2, -1, Integer.MIN_VALUE, Integer.MAX_VALUE}) {
            DUE.is("slip(1, " + side + ")", car.slip(1, side), 5);
        }
    }

    private static void withoutReference() {
        GearBrake car = new GearBrake(4);
        car.wheel(1, 50);
        for (int w = 1; w <= 4; w++) {
            DUE.slipThrows(car, w, 0);
            DUE.slipThrows(car, w, 1);
            DUE.slipThrows(car, w, -7);
        }
        for (int w : Cars.NO_WHEELS) {
            DUE.is("slip(" + w + ", 0), no reference", car.slip(w, 0), 0);
            DUE.is("slip(" + w + ", 1), no reference", car.slip(w, 1), 0);
        }
        car.step(0, 0);
        for (int w : Cars.NO_WHEELS) {
            DUE.is("slip(" + w + ", 0)", car.slip(w, 0), 0);
            DUE.is("slip(" + w + ", 1)", car.slip(w, 1), 0);
        }
        DUE.slipIs(car, 1, 0, 1);
        car.wheel(1, 0);
        car.step(0, 0);
        DUE.slipThrows(car, 1, 0);
    }

    private static void allSmallOnes() {
        for (int reference = 1; reference <= 60; reference++) {
            GearBrake car = Cars.withReference(reference);
            for (int speed = 0; speed <= 120; speed++) {
                car.wheel(1, speed);
                isLowest(car, reference, speed);
            }
        }
    }

    private static void isLowest(GearBrake car, long reference, long speed) {
        long above = car.slip(1, 0);
        long below = car.slip(1, 1);
        String what = "the slip of " + speed + " at " + reference;
        DUE.isTrue(what + ": above 0 below", below > 0);
        DUE.is(what + ": its worth", above * reference, (reference - speed) * below);
        for (long d = 2; d <= below; d++) {
            DUE.isTrue(what + ": not by " + d, above % d != 0 || below % d != 0);
        }
    }
}
