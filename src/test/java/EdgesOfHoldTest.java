/** The edges in hold, in point 4 of a STEP, and in mode. */
final class EdgesOfHoldTest {
    private static final Due DUE = new Due("edges, hold and mode");

    public static void main(String[] args) {
        comesWhenTheReferenceIsZero();
        comesNotAboveZero();
        comesWhenItIsZeroAgain();
        pressesInTheNextStep();
        oneThatThereIsStays();
        noneIsAskedFor();
        goneAboveTwenty();
        goneByTheReferenceNotTheSpeed();
        goneForGood();
        notGoneByARefusedStep();
        modeOfAHold();
        modeOfOneLost();
        modeOtherwise();
        DUE.end();
    }

    private static void comesWhenTheReferenceIsZero() {
        DUE.by("it comes only when the REFERENCE is 0");
        DUE.is("hold(true) on a new object", new GearBrake(2).hold(true), 1);
        DUE.is("hold(true) at 0", Cars.withReference(0).hold(true), 1);
        GearBrake fast = Cars.rolling(1000, 1000);
        DUE.is("hold(true), no step yet", fast.hold(true), 1);
        DUE.is("mode()", fast.mode(), 2);
    }

    private static void comesNotAboveZero() {
        DUE.by("it comes only when the REFERENCE is 0: it is not");
        for (long reference : new long[] {1, 2, 19, 20, 21, 999, 1000}) {
            GearBrake car = Cars.withReference(reference);
            DUE.is("hold(true) at " + reference, car.hold(true), 0);
            DUE.is("mode()", car.mode(), 0);
            car.step(0, 0);
            DUE.is("pressure(1)", car.pressure(1), 0);
            car.wheel(1, 0);
            car.wheel(2, 0);
            DUE.is("hold(true) at " + reference + ", wheels at 0", car.hold(true), 0);
        }
    }

    private static void comesWhenItIsZeroAgain() {
        DUE.by("it comes only when the REFERENCE is 0: again");
        GearBrake car = Cars.withReference(4);
        car.wheel(1, 0);
        car.wheel(2, 0);
        car.step(50, 0);
        DUE.is("hold(true) at 1", car.hold(true), 0);
        car.step(50, 0);
        DUE.is("mode() at 0, not asked for again", car.mode(), 0);
        DUE.is("hold(true) at 0", car.hold(true), 1);
        car.step(0, 0);
        DUE.is("pressure(1)", car.pressure(1), 30);
    }

    private static void pressesInTheNextStep() {
        DUE.by("A HOLD is asked for: it presses in a STEP, and not before");
        GearBrake car = new GearBrake(2);
        car.hold(true);
        DUE.is("pressure(1) before the step", car.pressure(1), 0);
        car.bound(2, 10);
        DUE.is("pressure(2) before the step", car.pressure(2), 0);
        car.step(0, 0);
        DUE.is("pressure(1)", car.pressure(1), 30);
        DUE.is("pressure(2)", car.pressure(2), 10);
    }

    private static void oneThatThereIsStays() {
        DUE.by("one that there is stays");
        for (long reference : new long[] {0, 1, 2, 19, 20}) {
            GearBrake car = new GearBrake(2);
            car.hold(true);
            car.wheel(1, reference);
            car.step(0, 0);
            DUE.is("hold(true) at " + reference, car.hold(true), 1);
            DUE.is("mode()", car.mode(), 2);
            car.step(0, 0);
            DUE.is("pressure(2)", car.pressure(2), 30);
        }
    }

    private static void noneIsAskedFor() {
        DUE.by("A HOLD is asked for, or none");
        DUE.is("hold(false) on a new object", new GearBrake(2).hold(false), 0);
        for (long reference : new long[] {0, 1, 20}) {
            GearBrake car = new GearBrake(2);
            car.hold(true);
            car.wheel(1, reference);
            car.step(0, 0);
            DUE.is("hold(false) at " + reference, car.hold(false), 0);
            DUE.is("hold(false) again", car.hold(false), 0);
            DUE.is("mode()", car.mode(), 0);
            DUE.is("hold(true) at " + reference, car.hold(true), reference == 0 ? 1 : 0);
        }
        DUE.is("hold(false) at 1000", Cars.withReference(1000).hold(false), 0);
    }

    private static void goneAboveTwenty() {
        DUE.by("The HOLD is gone if the REFERENCE is above 20");
        for (long reference : new long[] {0, 1, 19, 20, 21, 22, 999, 1000}) {
            GearBrake car = new GearBrake(2);
            car.hold(true);
            car.wheel(2, reference);
            car.step(0, 0);
            DUE.is("mode() at " + reference, car.mode(), reference <= 20 ? 2 : 0);
        }
    }

    private static void goneByTheReferenceNotTheSpeed() {
        DUE.by("The HOLD is gone if the REFERENCE is above 20: not a SPEED");
        GearBrake car = new GearBrake(2);
        car.hold(true);
        car.wheel(1, 1000);
        DUE.is("mode() before the step", car.mode(), 2);
        car.lost(1, true);
        car.step(0, 0);
        DUE.is("mode() with the fast wheel lost", car.mode(), 2);
        DUE.is("hold(true)", car.hold(true), 1);
        car.lost(1, false);
        car.step(0, 0);
        DUE.is("mode() with the fast wheel", car.mode(), 0);
    }

    private static void goneForGood() {
        DUE.by("The HOLD is gone");
        GearBrake car = new GearBrake(2);
        car.hold(true);
        car.wheel(1, 21);
        car.step(0, 0);
        DUE.is("hold(true) at 21", car.hold(true), 0);
        car.wheel(1, 0);
        car.step(0, 0);
        DUE.is("mode() at 0", car.mode(), 0);
        car.step(0, 0);
        DUE.is("pressure(1)", car.pressure(1), 0);
    }

    private static void notGoneByARefusedStep() {
        DUE.by("REFUSALS change nothing: the HOLD");
        GearBrake car = new GearBrake(2);
        car.hold(true);
        car.wheel(1, 500);
        car.step(-1, 0);
        car.step(0, -31);
        DUE.is("mode()", car.mode(), 2);
    }

    private static void modeOfAHold() {
        DUE.by("2 while there is a HOLD");
        for (int wheels = 2; wheels <= 8; wheels++) {
            GearBrake car = new GearBrake(wheels);
            car.hold(true);
            DUE.is("mode()", car.mode(), 2);
            for (int w = 1; w <= wheels; w++) {
                car.lost(w, true);
                DUE.is("mode(), lost up to " + w, car.mode(), 2);
            }
            car.hold(false);
            DUE.is("mode(), no hold", car.mode(), 1);
        }
    }

    private static void modeOfOneLost() {
        DUE.by("otherwise 1 if a wheel is LOST");
        for (int wheels = 2; wheels <= 8; wheels++) {
            GearBrake car = new GearBrake(wheels);
            for (int w = 1; w <= wheels; w++) {
                car.lost(w, true);
                DUE.is("mode(), " + w + " lost", car.mode(), 1);
                car.lost(w, false);
                DUE.is("mode(), none lost", car.mode(), 0);
            }
            for (int w = 1; w <= wheels; w++) {
                car.lost(w, true);
                DUE.is("mode(), lost up to " + w, car.mode(), 1);
            }
            for (int w = 1; w <= wheels; w++) {
                DUE.is("mode(), lost from " + w + " on", car.mode(), 1);
                car.lost(w, false);
            }
            DUE.is("mode(), none lost", car.mode(), 0);
        }
    }

    private static void modeOtherwise() {
        DUE.by("otherwise 0");
        for (long reference : new long[] {0, 1, 20, 21, 1000}) {
            DUE.is("mode() at " + reference, Cars.withReference(reference).mode(), 0);
        }
        DUE.is("mode() on a new object", new GearBrake(8).mode(), 0);
    }
}
