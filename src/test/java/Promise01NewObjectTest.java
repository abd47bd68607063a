/** Promise 1: how many wheels a new object has, and what all is at first. */
final class Promise01NewObjectTest {
    private static final Due DUE = new Due("promise 1, a new object");

    public static void main(String[] args) {
        for (int wheels = 2; wheels <= 8; wheels++) {
            hasWheels(wheels, wheels);
        }
        for (int other : new int[] {1, 9, 0, -1, -4, 10, 512, Integer.MIN_VALUE, Integer.MAX_VALUE}) {
            hasWheels(other, 4);
        }
        atFirst();
        speedsAndBoundsAtFirst();
        objectsAreApart();
        DUE.end();
    }

    private static void hasWheels(int asked, int due) {
        GearBrake car = new GearBrake(asked);
        for (int w = 1; w <= 9; w++) {
            DUE.is("new(" + asked + ").phase(" + w + ")", car.phase(w), w <= due ? 0 : -1);
            DUE.is("new(" + asked + ").wheel(" + w + ", 1)", car.wheel(w, 1), w <= due ? 1 : -1);
        }
        DUE.is("new(" + asked + ").phase(0)", car.phase(0), -1);
    }

    private static void atFirst() {
        GearBrake car = new GearBrake(4);
        DUE.is("reference()", car.reference(), 0);
        DUE.is("gear()", car.gear(), 1);
        DUE.is("mode()", car.mode(), 0);
        for (int w = 1; w <= 4; w++) {
            DUE.wheelIs(car, w, Cars.FREE, 0);
            DUE.isModel("plant(" + w + ")", car.plant(w), 0.0);
            DUE.slipThrows(car, w, 0);
        }
    }

    private static void speedsAndBoundsAtFirst() {
        GearBrake car = new GearBrake(2);
        DUE.is("step(100, 0)", car.step(100, 0), 1);
        DUE.is("reference()", car.reference(), 0);
        DUE.wheelIs(car, 1, Cars.FREE, 100);
        DUE.is("yaw(0, 21)", car.yaw(0, 21), 1);
        DUE.wheelIs(car, 1, Cars.FREE, 100);
    }

    private static void objectsAreApart() {
        GearBrake one = new GearBrake(2);
        GearBrake other = new GearBrake(2);
        one.wheel(1, 500);
        one.step(50, 0);
        one.lost(1, true);
        DUE.is("reference() of the other", other.reference(), 0);
        DUE.is("gear() of the other", other.gear(), 1);
        DUE.is("mode() of the other", other.mode(), 0);
        DUE.wheelIs(other, 1, Cars.FREE, 0);
    }
}
