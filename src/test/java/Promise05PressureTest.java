/** Promise 5: what pressure answers. */
final class Promise05PressureTest {
    private static final Due DUE = new Due("promise 5, pressure");

    public static void main(String[] args) {
        GearBrake car = Cars.rolling(100, 100, 100, 100);
        car.bound(3, 7);
        car.step(50, 0);
        car.wheel(2, 70);
        car.step(60, 0);
        long[] due = {60, 40, 7, 60};
        for (int w = 1; w <= 4; w++) {
            DUE.is("pressure(" + w + ")", car.pressure(w), due[w - 1]);
            DUE.is("pressure(" + w + ") again", car.pressure(w), due[w - 1]);
        }
        for (int w : Cars.NO_WHEELS) {
            DUE.is("pressure(" + w + ")", car.pressure(w), -1);
        }
        DUE.end();
    }
}
