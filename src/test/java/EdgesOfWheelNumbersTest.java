/** Which numbers are wheels, for each number of wheels and each call that takes one: "-1 there is none", or 0. */
final class EdgesOfWheelNumbersTest {
    private static final Due DUE = new Due("edges, numbers of wheels");

    private interface CallOfWheel {
        void on(GearBrake car, int w);
    }

    public static void main(String[] args) {
        hasSoMany();
        hasFourForAnyOther();
        wheelOfNone();
        phaseOfNone();
        pressureOfNone();
        slipOfNone();
        lostOfNone();
        plantOfNone();
        boundOfNone();
        wheelOfTheFirstAndTheLast();
        phaseAndPressureOfTheFirstAndTheLast();
        slipOfTheFirstAndTheLast();
        lostOfTheFirstAndTheLast();
        plantOfTheFirstAndTheLast();
        boundOfTheFirstAndTheLast();
        DUE.end();
    }

    private static int wheelsOf(GearBrake car) {
        int count = 0;
        for (int w = -20; w <= 40; w++) {
            count += car.phase(w) == -1 ? 0 : 1;
        }
        return count;
    }

    private static void hasSoMany() {
        DUE.by("So many wheels (2 .. 8)");
        for (int wheels = 2; wheels <= 8; wheels++) {
            DUE.is("wheels of new(" + wheels + ")", wheelsOf(new GearBrake(wheels)), wheels);
        }
    }

    private static void hasFourForAnyOther() {
        DUE.by("4 for any other number");
        for (int wheels : new Range(2, 8).outsideInts()) {
            GearBrake car = new GearBrake(wheels);
            DUE.is("wheels of new(" + wheels + ")", wheelsOf(car), 4);
            DUE.is("new(" + wheels + ").phase(4)", car.phase(4), 0);
            DUE.is("new(" + wheels + ").phase(5)", car.phase(5), -1);
        }
    }

    /** Each number that is none, on a new car of each size, and on one that has a reference. */
    private static void forNone(CallOfWheel call) {
        for (int wheels = 2; wheels <= 8; wheels++) {
            GearBrake fresh = new GearBrake(wheels);
            GearBrake rolling = Cars.braking(wheels);
            for (int w : new Range(1, wheels).outsideInts()) {
                call.on(fresh, w);
                call.on(rolling, w);
            }
        }
    }

    private static void wheelOfNone() {
        DUE.by("wheel: -1 there is none");
        forNone((car, w) -> {
            DUE.is("wheel(" + w + ", 0)", car.wheel(w, 0), -1);
            DUE.is("wheel(" + w + ", 1000)", car.wheel(w, 1000), -1);
        });
    }

    private static void phaseOfNone() {
        DUE.by("phase: -1 there is none");
        forNone((car, w) -> DUE.is("phase(" + w + ")", car.phase(w), -1));
    }

    private static void pressureOfNone() {
        DUE.by("pressure: -1 there is none");
        forNone((car, w) -> DUE.is("pressure(" + w + ")", car.pressure(w), -1));
    }

    private static void slipOfNone() {
        DUE.by("slip: 0 if there is no wheel");
        forNone((car, w) -> {
            DUE.is("slip(" + w + ", 0)", car.slip(w, 0), 0);
            DUE.is("slip(" + w + ", 1)", car.slip(w, 1), 0);
            DUE.is("slip(" + w + ", -1)", car.slip(w, -1), 0);
        });
    }

    private static void lostOfNone() {
        DUE.by("lost: -1 there is none");
        forNone((car, w) -> {
            DUE.is("lost(" + w + ", true)", car.lost(w, true), -1);
            DUE.is("lost(" + w + ", false)", car.lost(w, false), -1);
        });
    }

    private static void plantOfNone() {
        DUE.by("plant: 0 if there is none");
        forNone((car, w) -> DUE.isModel("plant(" + w + ")", car.plant(w), 0.0));
    }

    private static void boundOfNone() {
        DUE.by("bound: -1 there is none");
        forNone((car, w) -> {
            DUE.is("bound(" + w + ", 0)", car.bound(w, 0), -1);
            DUE.is("bound(" + w + ", 200)", car.bound(w, 200), -1);
        });
    }

    private static void wheelOfTheFirstAndTheLast() {
        DUE.by("WHEELS are numbered from 1 on: wheel");
        for (int wheels = 2; wheels <= 8; wheels++) {
            for (int w : new Range(1, wheels).insideInts()) {
                GearBrake car = new GearBrake(wheels);
                DUE.is("wheel(" + w + ", 40) of " + wheels, car.wheel(w, 40), 1);
                car.step(0, 0);
                for (int other = 1; other <= wheels; other++) {
                    DUE.slipIs(car, other, other == w ? 0 : 1, 1);
                }
            }
        }
    }

    private static void phaseAndPressureOfTheFirstAndTheLast() {
        DUE.by("WHEELS are numbered from 1 on: phase, pressure");
        for (int wheels = 2; wheels <= 8; wheels++) {
            for (int w : new Range(1, wheels).insideInts()) {
                GearBrake car = new GearBrake(wheels);
                car.wheel(w, 40);
                car.step(50, 0);
                for (int other = 1; other <= wheels; other++) {
                    DUE.wheelIs(car, other, other == w ? Cars.FREE : Cars.RELEASING, other == w ? 50 : 0);
                }
            }
        }
    }

    private static void slipOfTheFirstAndTheLast() {
        DUE.by("WHEELS are numbered from 1 on: slip");
        for (int wheels = 2; wheels <= 8; wheels++) {
            GearBrake car = new GearBrake(wheels);
            for (int w = 1; w <= wheels; w++) {
                car.wheel(w, 10 * w);
            }
            car.step(0, 0);
            for (int w = 1; w <= wheels; w++) {
                DUE.is("slip(" + w + ", 0) of the whole", car.slip(w, 0) * wheels, (wheels - w) * car.slip(w, 1));
            }
        }
    }

    private static void lostOfTheFirstAndTheLast() {
        DUE.by("WHEELS are numbered from 1 on: lost");
        for (int wheels = 2; wheels <= 8; wheels++) {
            for (int w : new Range(1, wheels).insideInts()) {
                GearBrake car = new GearBrake(wheels);
                car.wheel(w, 500);
                DUE.is("lost(" + w + ", true) of " + wheels, car.lost(w, true), 1);
                car.step(0, 0);
                DUE.is("reference()", car.reference(), 0);
                DUE.is("lost(" + w + ", false) of " + wheels, car.lost(w, false), 0);
                car.step(0, 0);
                DUE.is("reference()", car.reference(), 500);
            }
        }
    }

    private static void plantOfTheFirstAndTheLast() {
        DUE.by("WHEELS are numbered from 1 on: plant");
        for (int wheels = 2; wheels <= 8; wheels++) {
            for (int w : new Range(1, wheels).insideInts()) {
                GearBrake car = new GearBrake(wheels);
                car.wheel(w, 40);
                car.step(0, 0);
                for (int other = 1; other <= wheels; other++) {
                    DUE.isModel("plant(" + other + ") of " + wheels, car.plant(other), other == w ? 5.0 : 0.0);
                }
            }
        }
    }

    private static void boundOfTheFirstAndTheLast() {
        DUE.by("WHEELS are numbered from 1 on: bound");
        for (int wheels = 2; wheels <= 8; wheels++) {
            for (int w : new Range(1, wheels).insideInts()) {
                GearBrake car = new GearBrake(wheels);
                DUE.is("bound(" + w + ", 6) of " + wheels, car.bound(w, 6), 1);
                car.step(100, 0);
                for (int other = 1; other <= wheels; other++) {
                    DUE.is("pressure(" + other + ")", car.pressure(other), other == w ? 6 : 100);
                }
            }
        }
    }
}
