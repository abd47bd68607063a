/** The edges in wish, and the rest of 10 STEPS that it gives point 5 of a STEP. */
final class EdgesOfWishTest {
    private static final Due DUE = new Due("edges, wish");

    public static void main(String[] args) {
        atLeast();
        atMost();
        lowestAndHighestReference();
        alsoIfItWas();
        fromNowOn();
        otherwiseZero();
        tenStepsUp();
        tenStepsDown();
        tenStepsOnANewObject();
        tenStepsOfTheLastWish();
        tenStepsFromAWishInARest();
        threeStepsAfterTheTen();
        refusedWishIsNoChange();
        unfitWishIsNoChange();
        DUE.end();
    }

    private static void wishIs(long reference, int gear, int due) {
        GearBrake car = Cars.withReference(reference);
        int before = car.gear();
        DUE.is("wish(" + gear + ") at " + reference, car.wish(gear), due);
        DUE.is("gear()", car.gear(), due == 1 ? gear : before);
    }

    private static void atLeast() {
        DUE.by("if the REFERENCE is at least 20 (gear - 1) - 10");
        for (int gear = 2; gear <= 6; gear++) {
            wishIs(20 * (gear - 1) - 9, gear, 1);
            wishIs(20 * (gear - 1) - 10, gear, 1);
            wishIs(20 * (gear - 1) - 11, gear, 0);
            wishIs(0, gear, 0);
        }
    }

    private static void atMost() {
        DUE.by("and at most 20 gear + 30");
        for (int gear = 1; gear <= 6; gear++) {
            wishIs(20 * gear + 29, gear, 1);
            wishIs(20 * gear + 30, gear, 1);
            wishIs(20 * gear + 31, gear, 0);
            wishIs(1000, gear, 0);
        }
    }

    private static void lowestAndHighestReference() {
        DUE.by("at least 20 (gear - 1) - 10: gear 1 from 0 on");
        wishIs(0, 1, 1);
        wishIs(1, 1, 1);
        DUE.is("wish(1) on a new object", new GearBrake(2).wish(1), 1);
        DUE.is("wish(2) on a new object", new GearBrake(2).wish(2), 0);
        DUE.is("wish(6) on a new object", new GearBrake(2).wish(6), 0);
    }

    private static void alsoIfItWas() {
        DUE.by("also if it was");
        for (int gear = 1; gear <= 6; gear++) {
            GearBrake car = Cars.withReference(20 * gear);
            DUE.is("wish(" + gear + ")", car.wish(gear), 1);
            DUE.is("wish(" + gear + ") again", car.wish(gear), 1);
            DUE.is("gear()", car.gear(), gear);
        }
    }

    private static void fromNowOn() {
        DUE.by("1 it is that from now on");
        GearBrake car = Cars.withReference(70);
        for (int gear : new int[] {2, 4, 3, 4, 2, 2, 3}) {
            DUE.is("wish(" + gear + ")", car.wish(gear), 1);
            DUE.is("gear()", car.gear(), gear);
        }
        DUE.is("step(0, 0)", car.step(0, 0), 3);
    }

    private static void otherwiseZero() {
        DUE.by("0 if not");
        GearBrake car = Cars.withReference(70);
        for (int gear : new int[] {1, 6, 6, 1}) {
            DUE.is("wish(" + gear + ")", car.wish(gear), 0);
            DUE.is("gear()", car.gear(), 2);
        }
    }

    private static void keepsNineThen(GearBrake car, long speed, int gear, int then) {
        car.wheel(1, speed);
        car.wheel(2, speed);
        for (int i = 1; i <= 9; i++) {
            DUE.is("step(0, 0), " + i + " after the wish", car.step(0, 0), gear);
        }
        DUE.is("step(0, 0), 10 after the wish", car.step(0, 0), then);
    }

    private static void tenStepsUp() {
        DUE.by("a wish: 10 or more: up");
        for (int gear = 1; gear <= 5; gear++) {
            GearBrake car = Cars.withReference(20 * gear);
            car.wish(gear);
            keepsNineThen(car, 1000, gear, gear + 1);
        }
    }

    private static void tenStepsDown() {
        DUE.by("a wish: 10 or more: down");
        for (int gear = 2; gear <= 6; gear++) {
            GearBrake car = Cars.withReference(20 * gear);
            car.wish(gear);
            keepsNineThen(car, 0, gear, gear - 1);
        }
    }

    private static void tenStepsOnANewObject() {
        DUE.by("a wish: 10 or more: before the first STEP");
        GearBrake car = new GearBrake(2);
        DUE.is("wish(1)", car.wish(1), 1);
        keepsNineThen(car, 1000, 1, 2);
        for (int more = 1; more <= 4; more++) {
            GearBrake later = new GearBrake(2);
            later.wish(1);
            Cars.steps(later, 9 + more, 0, 0);
            later.wheel(1, 31);
            DUE.is("step(0, 0), " + (10 + more) + " after the wish", later.step(0, 0), 2);
        }
    }

    private static void tenStepsOfTheLastWish() {
        DUE.by("also if it was; that is a change of it, too");
        for (int between = 0; between <= 12; between++) {
            GearBrake car = Cars.withReference(40);
            car.wish(2);
            Cars.steps(car, between, 0, 0);
            DUE.is("wish(2), " + between + " after the first", car.wish(2), 1);
            keepsNineThen(car, 1000, 2, 3);
        }
    }

    private static void tenStepsFromAWishInARest() {
        DUE.by("a wish: 10 or more: in the rest of another change");
        for (int between = 0; between <= 4; between++) {
            GearBrake car = Cars.withReference(50);
            DUE.is("gear()", car.gear(), 2);
            Cars.steps(car, between, 0, 0);
            DUE.is("wish(3)", car.wish(3), 1);
            DUE.is("gear()", car.gear(), 3);
            keepsNineThen(car, 1000, 3, 4);
        }
    }

    private static void threeStepsAfterTheTen() {
        DUE.by("one in STEP n: STEP n + 3 and on: after a wish");
        GearBrake car = Cars.withReference(40);
        car.wish(2);
        keepsNineThen(car, 1000, 2, 3);
        DUE.is("step(0, 0), 11 after the wish", car.step(0, 0), 3);
        DUE.is("step(0, 0), 12 after the wish", car.step(0, 0), 3);
        DUE.is("step(0, 0), 13 after the wish", car.step(0, 0), 4);
    }

    private static void refusedWishIsNoChange() {
        DUE.by("wish: -2 there is no such GEAR: no change of it");
        for (int gear : new Range(1, 6).outsideInts()) {
            GearBrake car = new GearBrake(2);
            DUE.is("wish(" + gear + ")", car.wish(gear), -2);
            car.wheel(1, 31);
            DUE.is("step(0, 0)", car.step(0, 0), 2);
        }
    }

    private static void unfitWishIsNoChange() {
        DUE.by("wish: 0 if not: no change of it");
        for (int gear = 2; gear <= 6; gear++) {
            GearBrake car = new GearBrake(2);
            DUE.is("wish(" + gear + ")", car.wish(gear), 0);
            car.wheel(1, 31);
            DUE.is("step(0, 0)", car.step(0, 0), 2);
            car.wheel(1, 51);
            car.step(0, 0);
            car.step(0, 0);
            DUE.is("wish(6)", car.wish(6), 0);
            DUE.is("step(0, 0), 3 after the change", car.step(0, 0), 3);
        }
    }
}
