/** Promise 6: turning against a wish. */
final class Promise06YawTest {
    private static final Due DUE = new Due("promise 6, yaw");

    public static void main(String[] args) {
        pressesOneWheel();
        lineIsTwenty();
        atMostTheBound();
        notWithALostWheel();
        refusals();
        nextStepSeesThePressure();
        DUE.end();
    }

    private static void pressuresAre(GearBrake car, long first, long second) {
        DUE.is("pressure(1)", car.pressure(1), first);
        DUE.is("pressure(2)", car.pressure(2), second);
        DUE.is("pressure(3)", car.pressure(3), 0);
    }

    private static void pressesOneWheel() {
        GearBrake car = new GearBrake(3);
        DUE.is("yaw(100, 0)", car.yaw(100, 0), 2);
        pressuresAre(car, 0, 20);
        DUE.is("yaw(0, 100)", car.yaw(0, 100), 1);
        pressuresAre(car, 20, 20);
        DUE.is("yaw(-100, -200)", car.yaw(-100, -200), 2);
        pressuresAre(car, 20, 40);
        DUE.is("yaw(-200, -100)", car.yaw(-200, -100), 1);
        pressuresAre(car, 40, 40);
    }

    private static void lineIsTwenty() {
        GearBrake car = new GearBrake(3);
        long[][] near = {{20, 0}, {0, 20}, {0, 0}, {-10, 10}, {10, -10}, {1000, 980}, {-1000, -980}};
        for (long[] row : near) {
            DUE.is("yaw(" + row[0] + ", " + row[1] + ")", car.yaw(row[0], row[1]), 0);
        }
        pressuresAre(car, 0, 0);
        DUE.is("yaw(21, 0)", car.yaw(21, 0), 2);
        DUE.is("yaw(-10, 11)", car.yaw(-10, 11), 1);
        pressuresAre(car, 20, 20);
        DUE.is("yaw(1000, -1000)", car.yaw(1000, -1000), 2);
        DUE.is("yaw(-1000, 1000)", car.yaw(-1000, 1000), 1);
        pressuresAre(car, 40, 40);
    }

    private static void atMostTheBound() {
        GearBrake car = new GearBrake(3);
        car.bound(2, 30);
        car.bound(1, 0);
        DUE.is("yaw(21, 0)", car.yaw(21, 0), 2);
        pressuresAre(car, 0, 20);
        DUE.is("yaw(21, 0)", car.yaw(21, 0), 2);
        pressuresAre(car, 0, 30);
        DUE.is("yaw(21, 0)", car.yaw(21, 0), 2);
        DUE.is("yaw(0, 21)", car.yaw(0, 21), 1);
        pressuresAre(car, 0, 30);
        car.bound(2, 200);
        for (int i = 0; i < 12; i++) {
            car.yaw(21, 0);
        }
        pressuresAre(car, 0, 200);
    }

    private static void notWithALostWheel() {
        GearBrake car = new GearBrake(3);
        for (int w = 1; w <= 3; w++) {
            car.lost(w, true);
            DUE.is("yaw(100, 0), " + w + " lost", car.yaw(100, 0), 0);
            DUE.is("yaw(0, 100), " + w + " lost", car.yaw(0, 100), 0);
            DUE.is("yaw(1001, 0), " + w + " lost", car.yaw(1001, 0), -2);
            car.lost(w, false);
        }
        pressuresAre(car, 0, 0);
        DUE.is("yaw(100, 0), none lost", car.yaw(100, 0), 2);
    }

    private static void refusals() {
        GearBrake car = new GearBrake(3);
        for (long turn : new long[] {-1001, 1001, Long.MIN_VALUE, Long.MAX_VALUE, 1L << 32}) {
            DUE.is("yaw(" + turn + ", 0)", car.yaw(turn, 0), -2);
            DUE.is("yaw(0, " + turn + ")", car.yaw(0, turn), -2);
            DUE.is("yaw(" + turn + ", " + turn + ")", car.yaw(turn, turn), -2);
        }
        pressuresAre(car, 0, 0);
    }

    private static void nextStepSeesThePressure() {
        GearBrake car = Cars.rolling(100, 100);
        car.step(50, 0);
        car.wheel(2, 85);
        car.yaw(100, 0);
        car.step(50, 0);
        DUE.wheelIs(car, 2, Cars.HOLDING, 70);
        car.step(0, 0);
        DUE.wheelIs(car, 2, Cars.FREE, 0);
    }
}
