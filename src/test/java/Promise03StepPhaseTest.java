/** Promise 3: rule 2 of a step, the phases and what each does to the pressure. */
final class Promise03StepPhaseTest {
    private static final Due DUE = new Due("promise 3, step: phases and pressures");

    public static void main(String[] args) {
        linesOfSlip();
        linesBetweenWholeSpeeds();
        freeIsThePedal();
        freeWithoutPedalReferenceOrSensor();
        holdingStays();
        releasingFallsToZero();
        buildingAfterHolding();
        buildingAfterReleasingEndsAtThePedal();
        buildingDoesNotBeginFromFree();
        buildingFallsWithThePedal();
        buildingMaySlipAgain();
        phasesOfTheStepBeforeCount();
        DUE.end();
    }

    private static void linesOfSlip() {
        GearBrake car = Cars.rolling(1000, 799, 800, 899, 900, 999);
        car.step(40, 0);
        DUE.wheelIs(car, 1, Cars.FREE, 40);
        DUE.wheelIs(car, 2, Cars.RELEASING, 0);
        DUE.wheelIs(car, 3, Cars.HOLDING, 0);
        DUE.wheelIs(car, 4, Cars.HOLDING, 0);
        DUE.wheelIs(car, 5, Cars.FREE, 40);
        DUE.wheelIs(car, 6, Cars.FREE, 40);
    }

    private static void linesBetweenWholeSpeeds() {
        GearBrake car = Cars.rolling(17, 16, 15, 14, 13, 12);
        car.step(40, 0);
        // 80 * 17 = 1360 and 90 * 17 = 1530 lie between 13 and 14, and between 15 and 16.
        DUE.wheelIs(car, 2, Cars.FREE, 40);
        DUE.wheelIs(car, 3, Cars.HOLDING, 0);
        DUE.wheelIs(car, 4, Cars.HOLDING, 0);
        DUE.wheelIs(car, 5, Cars.RELEASING, 0);
    }

    private static void freeIsThePedal() {
        GearBrake car = Cars.rolling(100, 100);
        for (long pedal : new long[] {1, 100, 37, 99, 2}) {
            car.step(pedal, 0);
            DUE.wheelIs(car, 1, Cars.FREE, pedal);
            DUE.wheelIs(car, 2, Cars.FREE, pedal);
        }
    }

    private static void freeWithoutPedalReferenceOrSensor() {
        GearBrake car = Cars.rolling(100, 85, 50);
        car.step(60, 0);
        car.lost(2, true);
        car.step(60, 0);
        DUE.wheelIs(car, 2, Cars.FREE, 60);
        DUE.wheelIs(car, 3, Cars.RELEASING, 0);
        car.step(0, 0);
        DUE.wheelIs(car, 3, Cars.FREE, 0);
        car.step(60, 0);
        DUE.wheelIs(car, 3, Cars.RELEASING, 0);

        GearBrake standing = new GearBrake(2);
        standing.step(55, 0);
        DUE.wheelIs(standing, 1, Cars.FREE, 55);

        GearBrake stopping = Cars.rolling(4, 0);
        stopping.step(40, 0);
        stopping.wheel(1, 0);
        stopping.step(40, 0);
        DUE.is("reference()", stopping.reference(), 1);
        DUE.wheelIs(stopping, 2, Cars.RELEASING, 0);
        stopping.step(40, 0);
        DUE.is("reference()", stopping.reference(), 0);
        DUE.wheelIs(stopping, 1, Cars.FREE, 40);
        DUE.wheelIs(stopping, 2, Cars.FREE, 40);
    }

    private static void holdingStays() {
        GearBrake car = Cars.rolling(100, 100);
        car.step(50, 0);
        car.wheel(2, 85);
        car.step(90, 0);
        DUE.wheelIs(car, 2, Cars.HOLDING, 50);
        car.step(10, 0);
        DUE.wheelIs(car, 2, Cars.HOLDING, 50);
    }

    private static void releasingFallsToZero() {
        GearBrake car = Cars.rolling(100, 100);
        car.step(25, 0);
        car.wheel(2, 79);
        long[] due = {15, 5, 0, 0};
        for (int i = 0; i < due.length; i++) {
            car.step(80, 0);
            DUE.wheelIs(car, 2, Cars.RELEASING, due[i]);
        }
    }

    private static void buildingAfterHolding() {
        GearBrake car = Cars.rolling(100, 100);
        car.step(50, 0);
        car.wheel(2, 85);
        car.step(50, 0);
        car.wheel(2, 90);
        car.step(57, 0);
        DUE.wheelIs(car, 2, Cars.BUILDING, 55);
        car.step(57, 0);
        DUE.wheelIs(car, 2, Cars.BUILDING, 57);
        car.step(57, 0);
        DUE.wheelIs(car, 2, Cars.FREE, 57);
    }

    private static void buildingAfterReleasingEndsAtThePedal() {
        GearBrake car = Cars.rolling(100, 50);
        car.step(10, 0);
        DUE.wheelIs(car, 2, Cars.RELEASING, 0);
        car.wheel(2, 100);
        car.step(10, 0);
        DUE.wheelIs(car, 2, Cars.BUILDING, 5);
        car.step(10, 0);
        DUE.wheelIs(car, 2, Cars.BUILDING, 10);
        car.step(10, 0);
        DUE.wheelIs(car, 2, Cars.FREE, 10);
        car.step(90, 0);
        DUE.wheelIs(car, 2, Cars.FREE, 90);
    }

    private static void buildingDoesNotBeginFromFree() {
        GearBrake car = Cars.rolling(100, 95);
        car.step(10, 0);
        car.step(60, 0);
        DUE.wheelIs(car, 2, Cars.FREE, 60);
    }

    private static void buildingFallsWithThePedal() {
        GearBrake car = Cars.rolling(100, 100);
        car.step(50, 0);
        car.wheel(2, 85);
        car.step(50, 0);
        car.wheel(2, 95);
        car.step(20, 0);
        DUE.wheelIs(car, 2, Cars.BUILDING, 20);
        car.step(80, 0);
        DUE.wheelIs(car, 2, Cars.BUILDING, 25);
        car.step(24, 0);
        DUE.wheelIs(car, 2, Cars.FREE, 24);
    }

    private static void buildingMaySlipAgain() {
        GearBrake car = Cars.rolling(100, 100);
        car.step(40, 0);
        car.wheel(2, 70);
        car.step(40, 0);
        car.wheel(2, 100);
        car.step(40, 0);
        DUE.wheelIs(car, 2, Cars.BUILDING, 35);
        car.wheel(2, 89);
        car.step(40, 0);
        DUE.wheelIs(car, 2, Cars.HOLDING, 35);
        car.wheel(2, 79);
        car.step(40, 0);
        DUE.wheelIs(car, 2, Cars.RELEASING, 25);
    }

    private static void phasesOfTheStepBeforeCount() {
        GearBrake car = Cars.rolling(100, 50);
        car.step(50, 0);
        DUE.wheelIs(car, 2, Cars.RELEASING, 0);
        car.step(0, 0);
        DUE.wheelIs(car, 2, Cars.FREE, 0);
        car.wheel(2, 100);
        car.step(50, 0);
        DUE.wheelIs(car, 2, Cars.FREE, 50);
    }
}
