/** Promise 11: a gear that is wished. */
final class Promise11WishTest {
    private static final Due DUE = new Due("promise 11, wish");

    public static void main(String[] args) {
        for (int gear = 1; gear <= 6; gear++) {
            lines(gear);
        }
        refusals();
        restsTenSteps();
        wishForTheSameGearRests();
        wishAfterAShiftRests();
        wishInTheRestIsTaken();
        refusedWishesDoNotRest();
        DUE.end();
    }

    private static void lines(int gear) {
        wishAt(20 * (gear - 1) - 10, gear, 1);
        wishAt(20 * gear + 30, gear, 1);
        wishAt(20 * gear, gear, 1);
        wishAt(20 * (gear - 1) - 11, gear, 0);
        wishAt(20 * gear + 31, gear, 0);
        wishAt(0, gear, gear == 1 ? 1 : 0);
        wishAt(1000, gear, 0);
    }

    private static void wishAt(int reference, int gear, int due) {
        if (reference < 0) {
            return;
        }
        GearBrake car = Cars.withReference(reference);
        int before = car.gear();
        DUE.is("wish(" + gear + ") at " + reference, car.wish(gear), due);
        DUE.is("gear()", car.gear(), due == 1 ? gear : before);
    }

    private static void refusals() {
        GearBrake car = Cars.withReference(40);
        for (int gear : new int[] {0, 7, -1, 8, Integer.MIN_VALUE, Integer.MAX_VALUE}) {
            DUE.is("wish(" + gear + ")", car.wish(gear), -2);
        }
        DUE.is("gear()", car.gear(), 2);
    }

    /** Nine steps keep the gear, the tenth changes it. */
    private static void keepsForTen(GearBrake car, int gear, int then) {
        for (int i = 1; i <= 9; i++) {
            DUE.is("step(0, 0), number " + i + " after the wish", car.step(0, 0), gear);
        }
        DUE.is("step(0, 0), number 10 after the wish", car.step(0, 0), then);
        DUE.is("step(0, 0), number 11 after the wish", car.step(0, 0), then);
        DUE.is("step(0, 0), number 12 after the wish", car.step(0, 0), then);
    }

    private static void restsTenSteps() {
        GearBrake car = Cars.withReference(90);
        Cars.steps(car, 20, 0, 0);
        DUE.is("gear()", car.gear(), 4);
        DUE.is("wish(6)", car.wish(6), 1);
        keepsForTen(car, 6, 5);
        DUE.is("step(0, 0), number 13 after the wish", car.step(0, 0), 5);
    }

    private static void wishForTheSameGearRests() {
        GearBrake car = new GearBrake(2);
        DUE.is("wish(1) on a new object", car.wish(1), 1);
        car.wheel(1, 1000);
        keepsForTen(car, 1, 2);
        DUE.is("step(0, 0), number 13 after the wish", car.step(0, 0), 3);
    }

    private static void wishAfterAShiftRests() {
        GearBrake car = Cars.withReference(50);
        DUE.is("gear()", car.gear(), 2);
        DUE.is("wish(2)", car.wish(2), 1);
        car.wheel(1, 1000);
        keepsForTen(car, 2, 3);
    }

    private static void wishInTheRestIsTaken() {
        GearBrake car = Cars.withReference(40);
        DUE.is("wish(3)", car.wish(3), 1);
        Cars.steps(car, 5, 0, 0);
        DUE.is("wish(1)", car.wish(1), 1);
        DUE.is("gear()", car.gear(), 1);
        keepsForTen(car, 1, 2);
    }

    private static void refusedWishesDoNotRest() {
        GearBrake car = Cars.withReference(0);
        DUE.is("wish(2)", car.wish(2), 0);
        DUE.is("wish(0)", car.wish(0), -2);
        car.wheel(1, 1000);
        DUE.is("step(0, 0)", car.step(0, 0), 2);
    }
}
