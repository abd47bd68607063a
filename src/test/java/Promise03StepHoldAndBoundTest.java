/** Promise 3: the hold and the bound within a step (rules 2 and 4). */
final class Promise03StepHoldAndBoundTest {
    private static final Due DUE = new Due("promise 3, step: hold and bound");

    public static void main(String[] args) {
        holdPressesThirty();
        holdPressesInEachPhase();
        boundIsAboveTheHold();
        boundInEachPhase();
        holdGoesAboveTwenty();
        DUE.end();
    }

    private static void holdPressesThirty() {
        GearBrake car = new GearBrake(2);
        car.hold(true);
        DUE.wheelIs(car, 1, Cars.FREE, 0);
        long[][] pedalsAndPressures = {{0, 30}, {29, 30}, {30, 30}, {31, 31}, {100, 100}, {0, 30}};
        for (long[] row : pedalsAndPressures) {
            car.step(row[0], 0);
            DUE.wheelIs(car, 1, Cars.FREE, row[1]);
            DUE.wheelIs(car, 2, Cars.FREE, row[1]);
        }
        car.hold(false);
        car.step(0, 0);
        DUE.wheelIs(car, 1, Cars.FREE, 0);
    }

    private static void holdPressesInEachPhase() {
        GearBrake car = new GearBrake(4);
        car.hold(true);
        car.wheel(1, 20);
        car.wheel(2, 17);
        car.wheel(3, 15);
        car.wheel(4, 15);
        car.step(20, 0);
        DUE.wheelIs(car, 1, Cars.FREE, 30);
        DUE.wheelIs(car, 2, Cars.HOLDING, 30);
        DUE.wheelIs(car, 3, Cars.RELEASING, 30);
        car.wheel(4, 20);
        car.step(20, 0);
        DUE.wheelIs(car, 3, Cars.RELEASING, 30);
        DUE.wheelIs(car, 4, Cars.BUILDING, 30);
        car.step(50, 0);
        DUE.wheelIs(car, 4, Cars.BUILDING, 35);
    }

    private static void boundIsAboveTheHold() {
        GearBrake car = new GearBrake(2);
        car.hold(true);
        car.bound(1, 29);
        car.bound(2, 0);
        car.step(0, 0);
        DUE.wheelIs(car, 1, Cars.FREE, 29);
        DUE.wheelIs(car, 2, Cars.FREE, 0);
    }

    private static void boundInEachPhase() {
        GearBrake car = Cars.rolling(100, 100, 100);
        car.bound(1, 45);
        car.bound(2, 45);
        car.step(60, 0);
        DUE.wheelIs(car, 1, Cars.FREE, 45);
        DUE.wheelIs(car, 3, Cars.FREE, 60);
        car.wheel(2, 85);
        car.step(60, 0);
        DUE.wheelIs(car, 2, Cars.HOLDING, 45);
        car.wheel(2, 100);
        car.step(60, 0);
        DUE.wheelIs(car, 2, Cars.BUILDING, 45);
        car.step(60, 0);
        DUE.wheelIs(car, 2, Cars.BUILDING, 45);
        car.step(45, 0);
        DUE.wheelIs(car, 2, Cars.FREE, 45);
    }

    private static void holdGoesAboveTwenty() {
        GearBrake car = new GearBrake(2);
        car.hold(true);
        car.wheel(1, 20);
        car.step(0, 0);
        DUE.is("mode() at 20", car.mode(), 2);
        car.wheel(1, 21);
        car.step(0, 0);
        DUE.is("mode() at 21", car.mode(), 0);
        DUE.wheelIs(car, 1, Cars.FREE, 30);
        car.wheel(1, 0);
        car.step(0, 0);
        DUE.is("mode() at 0 again", car.mode(), 0);
        DUE.wheelIs(car, 1, Cars.FREE, 0);
    }
}
