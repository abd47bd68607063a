/** The edges in point 2 of a STEP: which PHASE a wheel comes to. */
final class EdgesOfPhaseTest {
    private static final Due DUE = new Due("edges, point 2, phases");

    public static void main(String[] args) {
        freeIfLost();
        freeIfTheReferenceIsZero();
        freeIfThePedalIsZero();
        releasingBelowFourFifths();
        holdingBelowNineTenths();
        freeFromNineTenthsOn();
        buildingAfterHolding();
        buildingAfterReleasing();
        buildingGoesOnBelowThePedal();
        freeWhenBuiltToThePedal();
        freeStaysFree();
        slipIsOfThisReference();
        eachWheelForItself();
        DUE.end();
    }

    /** Wheel 1 has the speed of the reference 100, wheels 2 to 4 are HOLDING, RELEASING and BUILDING at 50, 40 and 45. */
    private static GearBrake inAllPhases() {
        GearBrake car = Cars.rolling(100, 100, 100, 100);
        car.step(50, 0);
        car.wheel(4, 70);
        car.step(50, 0);
        car.wheel(2, 85);
        car.wheel(3, 75);
        car.wheel(4, 95);
        car.step(50, 0);
        phasesAre(car, Cars.FREE, Cars.HOLDING, Cars.RELEASING, Cars.BUILDING);
        return car;
    }

    private static void phasesAre(GearBrake car, int... due) {
        for (int w = 1; w <= due.length; w++) {
            DUE.is("phase(" + w + ")", car.phase(w), due[w - 1]);
        }
    }

    private static void freeIfLost() {
        DUE.by("FREE if it is LOST");
        for (int w = 1; w <= 4; w++) {
            GearBrake car = inAllPhases();
            car.lost(w, true);
            car.step(50, 0);
            DUE.wheelIs(car, w, Cars.FREE, 50);
        }
        GearBrake slipping = inAllPhases();
        slipping.wheel(4, 10);
        slipping.lost(4, true);
        slipping.step(50, 0);
        phasesAre(slipping, Cars.FREE, Cars.HOLDING, Cars.RELEASING, Cars.FREE);
        slipping.lost(4, false);
        slipping.step(50, 0);
        phasesAre(slipping, Cars.FREE, Cars.HOLDING, Cars.RELEASING, Cars.RELEASING);
    }

    private static void freeIfTheReferenceIsZero() {
        DUE.by("FREE if the REFERENCE is 0");
        for (long reference = 1; reference <= 6; reference++) {
            GearBrake car = Cars.rolling(reference, 0);
            car.step(60, 0);
            DUE.is("phase(2)", car.phase(2), Cars.RELEASING);
            car.wheel(1, 0);
            car.step(60, 0);
            boolean stands = reference <= 3;
            DUE.wheelIs(car, 1, stands ? Cars.FREE : Cars.RELEASING, stands ? 60 : 50);
            DUE.wheelIs(car, 2, stands ? Cars.FREE : Cars.RELEASING, stands ? 60 : 0);
        }
    }

    private static void freeIfThePedalIsZero() {
        DUE.by("FREE if the PEDAL is 0");
        GearBrake car = inAllPhases();
        car.step(0, 0);
        phasesAre(car, Cars.FREE, Cars.FREE, Cars.FREE, Cars.FREE);
        GearBrake touched = inAllPhases();
        touched.wheel(4, 89);
        touched.step(1, 0);
        phasesAre(touched, Cars.FREE, Cars.HOLDING, Cars.RELEASING, Cars.HOLDING);
    }

    /** The phase of a wheel that was FREE, at this speed and reference, with the pedal pressed. */
    private static void phaseIs(long speed, long reference, int due) {
        GearBrake car = Cars.rolling(reference, speed);
        car.step(10, 0);
        DUE.is("phase(2) at " + speed + " of " + reference, car.phase(2), due);
    }

    /** The least whole speed that is not below that many hundredths of the reference. */
    private static long line(long hundredths, long reference) {
        long speed = 0;
        while (100 * speed < hundredths * reference) {
            speed++;
        }
        return speed;
    }

    private static void releasingBelowFourFifths() {
        DUE.by("RELEASING, if 100 SPEED is below 80 REFERENCE");
        for (long reference = 1; reference <= 1000; reference++) {
            phaseIs(line(80, reference) - 1, reference, Cars.RELEASING);
        }
        phaseIs(0, 1, Cars.RELEASING);
        phaseIs(0, 1000, Cars.RELEASING);
        phaseIs(3, 5, Cars.RELEASING);
        phaseIs(799, 1000, Cars.RELEASING);
    }

    private static void holdingBelowNineTenths() {
        DUE.by("otherwise HOLDING, if it is below 90 REFERENCE");
        for (long reference = 1; reference <= 1000; reference++) {
            if (line(80, reference) < line(90, reference)) {
                phaseIs(line(80, reference), reference, Cars.HOLDING);
                phaseIs(line(90, reference) - 1, reference, Cars.HOLDING);
            }
        }
        phaseIs(4, 5, Cars.HOLDING);
        phaseIs(8, 10, Cars.HOLDING);
        phaseIs(800, 1000, Cars.HOLDING);
        phaseIs(899, 1000, Cars.HOLDING);
    }

    private static void freeFromNineTenthsOn() {
        DUE.by("otherwise FREE: neither below 90 REFERENCE nor BUILDING");
        for (long reference = 1; reference <= 1000; reference++) {
            phaseIs(line(90, reference), reference, Cars.FREE);
            phaseIs(reference, reference, Cars.FREE);
        }
        phaseIs(9, 10, Cars.FREE);
        phaseIs(900, 1000, Cars.FREE);
        phaseIs(1, 1, Cars.FREE);
    }

    private static void buildingAfterHolding() {
        DUE.by("BUILDING, if it was HOLDING");
        for (long pedal : new long[] {1, 49, 50, 51, 100}) {
            GearBrake car = inAllPhases();
            car.wheel(2, 90);
            car.step(pedal, 0);
            DUE.wheelIs(car, 2, Cars.BUILDING, Math.min(55, pedal));
        }
    }

    private static void buildingAfterReleasing() {
        DUE.by("BUILDING, if it was RELEASING");
        for (long pedal : new long[] {1, 39, 40, 41, 100}) {
            GearBrake car = inAllPhases();
            car.wheel(3, 90);
            car.step(pedal, 0);
            DUE.wheelIs(car, 3, Cars.BUILDING, Math.min(45, pedal));
        }
    }

    private static void buildingGoesOnBelowThePedal() {
        DUE.by("or was BUILDING and its PRESSURE is below the PEDAL");
        for (long pedal : new long[] {46, 47, 50, 51, 100}) {
            GearBrake car = inAllPhases();
            car.step(pedal, 0);
            DUE.wheelIs(car, 4, Cars.BUILDING, Math.min(50, pedal));
        }
    }

    private static void freeWhenBuiltToThePedal() {
        DUE.by("or was BUILDING and its PRESSURE is below the PEDAL: it is not");
        for (long pedal : new long[] {1, 44, 45}) {
            GearBrake car = inAllPhases();
            car.step(pedal, 0);
            DUE.wheelIs(car, 4, Cars.FREE, pedal);
        }
        GearBrake bound = inAllPhases();
        bound.bound(4, 44);
        bound.step(45, 0);
        DUE.wheelIs(bound, 4, Cars.BUILDING, 44);
        bound.step(44, 0);
        DUE.wheelIs(bound, 4, Cars.FREE, 44);
    }

    private static void freeStaysFree() {
        DUE.by("otherwise FREE: it was FREE");
        GearBrake car = inAllPhases();
        car.step(0, 0);
        car.wheel(2, 100);
        car.wheel(3, 90);
        car.step(100, 0);
        for (int w = 1; w <= 4; w++) {
            DUE.wheelIs(car, w, Cars.FREE, 100);
        }
    }

    private static void slipIsOfThisReference() {
        DUE.by("RELEASING, HOLDING by the REFERENCE of this STEP");
        GearBrake car = Cars.withReference(100);
        car.wheel(1, 50);
        car.wheel(2, 50);
        car.step(10, 0);
        DUE.is("reference()", car.reference(), 97);
        phasesAre(car, Cars.RELEASING, Cars.RELEASING);
        car.step(0, 0);
        DUE.is("reference()", car.reference(), 50);
        car.wheel(1, 62);
        car.step(10, 0);
        phasesAre(car, Cars.FREE, Cars.HOLDING);
        car.wheel(1, 63);
        car.step(10, 0);
        phasesAre(car, Cars.FREE, Cars.RELEASING);
    }

    private static void eachWheelForItself() {
        DUE.by("Each wheel, in order: its PHASE");
        GearBrake car = Cars.rolling(79, 80, 89, 90, 100, 79, 80, 90);
        car.step(30, 0);
        phasesAre(car, Cars.RELEASING, Cars.HOLDING, Cars.HOLDING, Cars.FREE, Cars.FREE,
            Cars.RELEASING, Cars.HOLDING, Cars.FREE);
    }
}
