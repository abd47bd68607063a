/** Promise 15: what mode answers. */
final class Promise15ModeTest {
    private static final Due DUE = new Due("promise 15, mode");

    public static void main(String[] args) {
        GearBrake car = new GearBrake(8);
        DUE.is("mode()", car.mode(), 0);
        for (int w = 1; w <= 8; w++) {
            car.lost(w, true);
            DUE.is("mode(), " + w + " lost", car.mode(), 1);
            car.lost(w, false);
            DUE.is("mode(), none lost", car.mode(), 0);
        }
        car.hold(true);
        DUE.is("mode(), held", car.mode(), 2);
        car.lost(8, true);
        DUE.is("mode(), held and lost", car.mode(), 2);
        car.wheel(1, 21);
        car.step(0, 0);
        DUE.is("mode(), the hold is gone", car.mode(), 1);
        car.lost(8, false);
        DUE.is("mode(), none lost", car.mode(), 0);
        car.wheel(1, 0);
        car.step(0, 0);
        car.hold(true);
        DUE.is("mode(), held", car.mode(), 2);
        car.hold(false);
        DUE.is("mode(), not held", car.mode(), 0);
        DUE.end();
    }
}
