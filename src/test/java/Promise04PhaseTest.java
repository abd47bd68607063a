/** Promise 4: what phase answers. */
final class Promise04PhaseTest {
    private static final Due DUE = new Due("promise 4, phase");

    public static void main(String[] args) {
        GearBrake car = Cars.rolling(100, 85, 70, 70);
        car.step(50, 0);
        car.wheel(4, 100);
        DUE.is("phase(4) before the step", car.phase(4), 2);
        car.step(50, 0);
        int[] due = {0, 1, 2, 3};
        for (int w = 1; w <= 4; w++) {
            DUE.is("phase(" + w + ")", car.phase(w), due[w - 1]);
            DUE.is("phase(" + w + ") again", car.phase(w), due[w - 1]);
        }
        car.lost(2, true);
        DUE.is("phase(2), lost before the step", car.phase(2), 1);
        car.step(50, 0);
        DUE.is("phase(2), lost", car.phase(2), 0);
        for (int w : Cars.NO_WHEELS) {
            DUE.is("phase(" + w + ")", car.phase(w), -1);
        }
        DUE.end();
    }
}
