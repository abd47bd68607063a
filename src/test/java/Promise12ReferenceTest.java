/** Promise 12: what reference answers. */
final class Promise12ReferenceTest {
    private static final Due DUE = new Due("promise 12, reference");

    public static void main(String[] args) {
        GearBrake car = new GearBrake(4);
        DUE.is("reference()", car.reference(), 0);
        for (int speed : new int[] {1, 999, 1000, 0, 500}) {
            long before = car.reference();
            car.wheel(4, speed);
            DUE.is("reference() before the step", car.reference(), before);
            car.step(0, 0);
            DUE.is("reference()", car.reference(), speed);
            DUE.is("reference() again", car.reference(), speed);
        }
        car.lost(4, true);
        DUE.is("reference(), lost before the step", car.reference(), 500);
        car.step(101, 0);
        DUE.is("reference(), after a refusal", car.reference(), 500);
        car.step(10, 0);
        DUE.is("reference(), with the pedal", car.reference(), 497);
        DUE.end();
    }
}
