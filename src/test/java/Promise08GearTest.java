/** Promise 8: what gear answers. */
final class Promise08GearTest {
    private static final Due DUE = new Due("promise 8, gear");

    public static void main(String[] args) {
        GearBrake car = Cars.rolling(131, 131);
        DUE.is("gear()", car.gear(), 1);
        for (int gear = 2; gear <= 6; gear++) {
            DUE.is("step(0, 0)", car.step(0, 0), gear);
            DUE.is("gear()", car.gear(), gear);
            Cars.steps(car, 2, 0, 0);
            DUE.is("gear() again", car.gear(), gear);
        }
        car.step(101, 0);
        car.wish(1);
        car.wish(7);
        DUE.is("gear() after refusals", car.gear(), 6);
        DUE.is("wish(5)", car.wish(5), 0);
        car.wheel(1, 130);
        car.wheel(2, 130);
        car.step(0, 0);
        DUE.is("wish(5)", car.wish(5), 1);
        DUE.is("gear() as wished", car.gear(), 5);
        DUE.end();
    }
}
