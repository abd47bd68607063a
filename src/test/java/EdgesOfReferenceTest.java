/** The edges in point 1 of a STEP, the REFERENCE. */
final class EdgesOfReferenceTest {
    private static final Due DUE = new Due("edges, point 1");

    public static void main(String[] args) {
        greatestAtEachPlace();
        greatestOfEqualOnes();
        lostOnesDoNotCount();
        followsWithoutPedal();
        fallsWithPedal();
        threeOfTheReferenceBefore();
        notBelowZeroWithWheels();
        notBelowZeroWithoutWheels();
        withoutWheelsJustThat();
        oneWheelIsEnough();
        fromLostToNotLost();
        highestReference();
        DUE.end();
    }

    private static void referenceIs(GearBrake car, long pedal, long due) {
        car.step(pedal, 0);
        DUE.is("reference() after step(" + pedal + ", 0)", car.reference(), due);
    }

    private static void loseAll(GearBrake car, int wheels) {
        for (int w = 1; w <= wheels; w++) {
            car.lost(w, true);
        }
    }

    private static void greatestAtEachPlace() {
        DUE.by("the greatest SPEED of wheels");
        for (int wheels = 2; wheels <= 8; wheels++) {
            for (int w = 1; w <= wheels; w++) {
                GearBrake car = new GearBrake(wheels);
                for (int other = 1; other <= wheels; other++) {
                    car.wheel(other, other == w ? 71 : 70 - other);
                }
                referenceIs(car, 0, 71);
            }
        }
    }

    private static void greatestOfEqualOnes() {
        DUE.by("the greatest SPEED of wheels: equal ones");
        referenceIs(Cars.rolling(33, 33, 33), 0, 33);
        referenceIs(Cars.rolling(0, 0), 0, 0);
        referenceIs(Cars.rolling(0, 1), 0, 1);
        referenceIs(Cars.rolling(1000, 1000), 100, 1000);
    }

    private static void lostOnesDoNotCount() {
        DUE.by("wheels that are not LOST");
        for (long pedal : new long[] {0, 1, 100}) {
            GearBrake car = Cars.rolling(90, 80, 70, 60);
            referenceIs(car, pedal, 90);
            car.lost(1, true);
            referenceIs(car, pedal, pedal == 0 ? 80 : 87);
            referenceIs(car, pedal, pedal == 0 ? 80 : 84);
            referenceIs(car, pedal, pedal == 0 ? 80 : 81);
            referenceIs(car, pedal, 80);
        }
    }

    private static void followsWithoutPedal() {
        DUE.by("the greatest SPEED; but if the PEDAL is above 0: it is 0");
        for (long speed : new long[] {0, 1, 36, 37, 38, 39, 40, 41, 1000}) {
            GearBrake car = Cars.withReference(40);
            car.wheel(1, speed);
            car.wheel(2, 0);
            referenceIs(car, 0, speed);
        }
    }

    private static void fallsWithPedal() {
        DUE.by("if the PEDAL is above 0, not less than the REFERENCE before less 3");
        long[][] speedsAndReferences = {{0, 37}, {36, 37}, {37, 37}, {38, 38}, {39, 39}, {40, 40}, {41, 41}, {1000, 1000}};
        for (long pedal : new long[] {1, 2, 99, 100}) {
            for (long[] row : speedsAndReferences) {
                GearBrake car = Cars.withReference(40);
                car.wheel(1, 0);
                car.wheel(2, row[0]);
                referenceIs(car, pedal, row[1]);
            }
        }
    }

    private static void threeOfTheReferenceBefore() {
        DUE.by("the REFERENCE before less 3: step by step");
        GearBrake car = Cars.withReference(1000);
        car.wheel(1, 0);
        car.wheel(2, 0);
        for (int i = 1; i <= 60; i++) {
            referenceIs(car, 1 + i % 100, 1000 - 3 * i);
        }
        referenceIs(car, 0, 0);
    }

    private static void notBelowZeroWithWheels() {
        DUE.by("and not below 0");
        for (long before = 0; before <= 7; before++) {
            GearBrake car = Cars.withReference(before);
            car.wheel(1, 0);
            car.wheel(2, 0);
            referenceIs(car, 1, before < 3 ? 0 : before - 3);
            referenceIs(car, 100, before < 6 ? 0 : before - 6);
        }
    }

    private static void notBelowZeroWithoutWheels() {
        DUE.by("and not below 0: no such wheel");
        for (long pedal : new long[] {0, 1, 100}) {
            for (long before = 0; before <= 7; before++) {
                GearBrake car = Cars.withReference(before);
                loseAll(car, 2);
                referenceIs(car, pedal, before < 3 ? 0 : before - 3);
                referenceIs(car, pedal, before < 6 ? 0 : before - 6);
            }
        }
    }

    private static void withoutWheelsJustThat() {
        DUE.by("without such a wheel just that");
        for (long pedal : new long[] {0, 1, 100}) {
            for (int wheels = 2; wheels <= 8; wheels++) {
                GearBrake car = Cars.braking(wheels);
                loseAll(car, wheels);
                car.wheel(1, 1000);
                car.wheel(wheels, 39);
                referenceIs(car, pedal, 37);
                referenceIs(car, pedal, 34);
                referenceIs(car, pedal, 31);
            }
        }
        GearBrake fresh = Cars.rolling(1000, 1000);
        loseAll(fresh, 2);
        referenceIs(fresh, 0, 0);
        referenceIs(fresh, 100, 0);
    }

    private static void oneWheelIsEnough() {
        DUE.by("or there is no such wheel: one is enough");
        for (int wheels = 2; wheels <= 8; wheels++) {
            for (int w = 1; w <= wheels; w++) {
                GearBrake car = Cars.braking(wheels);
                loseAll(car, wheels);
                car.lost(w, false);
                car.wheel(w, 7);
                referenceIs(car, 0, 7);
                car.wheel(w, 0);
                referenceIs(car, 0, 0);
                car.wheel(w, 50);
                referenceIs(car, 50, 50);
                car.lost(w, true);
                referenceIs(car, 0, 47);
            }
        }
    }

    private static void fromLostToNotLost() {
        DUE.by("wheels that are not LOST: lost and found");
        GearBrake car = Cars.rolling(90, 20);
        car.lost(1, true);
        referenceIs(car, 0, 20);
        car.lost(1, false);
        referenceIs(car, 0, 90);
        car.lost(1, true);
        referenceIs(car, 1, 87);
        car.lost(2, true);
        referenceIs(car, 0, 84);
        car.lost(2, false);
        referenceIs(car, 0, 20);
    }

    private static void highestReference() {
        DUE.by("the greatest SPEED of wheels: the greatest there is");
        GearBrake car = Cars.rolling(1000, 999, 1000);
        referenceIs(car, 0, 1000);
        referenceIs(car, 100, 1000);
        loseAll(car, 3);
        referenceIs(car, 100, 997);
    }
}
