import java.util.Random;

/** Runs of 512 mixed calls, wrong ones too, many at the lines of the document: each answer is the one of PlainCar. */
final class AgainstPlainCarTest {
    private static final Due DUE = new Due("all promises, mixed calls");
    private static final int RUNS = 2500;
    private static final int CALLS = 512;
    private static final int[] SIDES = {0, 0, 0, 1, 1, 1, 2, -1, Integer.MIN_VALUE, Integer.MAX_VALUE};
    private static final long[] EXTREMES = {Long.MIN_VALUE, Long.MAX_VALUE, Integer.MIN_VALUE, Integer.MAX_VALUE,
        -1, 0, 1, 1L << 32, (1L << 32) + 1, 1L << 63, -1000, -1001, 1000, 1001, 201, 200, 101, 100, 31, 30, -30, -31};

    private final int run;
    private final Random random;
    private final GearBrake car;
    private final PlainCar plain;
    /** Some runs are of slow cars, some lose no wheel or hardly wish, so that each line is met often. */
    private final int topSpeed;
    private final boolean losesWheels;
    private final boolean wishesOften;
    private final int asked;

    private AgainstPlainCarTest(int run) {
        this.run = run;
        random = new Random(run);
        asked = random.nextInt(20) == 0 ? (int) pick(EXTREMES) : 1 + random.nextInt(9);
        car = new GearBrake(asked);
        plain = new PlainCar(asked);
        topSpeed = new int[] {25, 60, 170, 1000}[random.nextInt(4)];
        losesWheels = random.nextInt(3) > 0;
        wishesOften = random.nextInt(3) == 0;
    }

    public static void main(String[] args) {
        for (int run = 0; run < RUNS; run++) {
            AgainstPlainCarTest test = new AgainstPlainCarTest(run);
            for (int i = 1; i <= CALLS; i++) {
                test.callAndCompare(i);
            }
        }
        DUE.end();
    }

    private void callAndCompare(int number) {
        try {
            call(random.nextInt(34), "new(" + asked + "), run " + run + ", call " + number + ", ");
        } catch (RuntimeException e) {
            DUE.isTrue("run " + run + ", call " + number + ": no throw of " + e, false);
        }
    }

    private void call(int kind, String at) {
        switch (kind) {
            case 0: case 1: case 2: case 3: case 4: case 5: wheel(at); break;
            case 6: yaw(at); break;
            case 7: slip(at); break;
            case 8: lost(at); break;
            case 9: hold(at); break;
            case 10: wishOrGear(at); break;
            case 11: bound(at); break;
            case 12: gear(at); break;
            case 13: case 14: DUE.is(at + "reference()", car.reference(), plain.reference()); break;
            case 15: DUE.is(at + "mode()", car.mode(), plain.mode()); break;
            case 16: case 17: case 18: phase(at); break;
            case 19: case 20: case 21: pressure(at); break;
            case 22: case 23: plant(at); break;
            default: step(at); break;
        }
    }

    private long pick(long[] values) {
        return values[random.nextInt(values.length)];
    }

    private long number(long least, long most) {
        return random.nextInt(16) == 0 ? pick(EXTREMES) : least + random.nextInt((int) (most - least + 1));
    }

    private int wheelNumber() {
        return (int) number(1, plain.wheels);
    }

    /** A speed at one of the lines that lie about the reference and the gear, or any. */
    private long speedNearALine() {
        long reference = plain.reference();
        long about = random.nextInt(3) - 1;
        switch (random.nextInt(8)) {
            case 0: return reference * 4 / 5 + about;
            case 1: return reference * 9 / 10 + about;
            case 2: return reference - 3 + about;
            case 3: return 20 * plain.gear() + 10 + about;
            case 4: return 20 * (plain.gear() - 1) + about;
            case 5: return random.nextBoolean() ? reference : 0;
            default: return number(0, topSpeed);
        }
    }

    private void wheel(String at) {
        int w = wheelNumber();
        long speed = speedNearALine();
        DUE.is(at + "wheel(" + w + ", " + speed + ")", car.wheel(w, speed), plain.wheel(w, speed));
    }

    private void step(String at) {
        long pedal = random.nextInt(3) == 0 ? 0 : number(0, random.nextBoolean() ? 100 : 40);
        long slope = random.nextInt(3) == 0 ? 0 : number(-30, 30);
        DUE.is(at + "step(" + pedal + ", " + slope + ")", car.step(pedal, slope), plain.step(pedal, slope));
    }

    private void yaw(String at) {
        long seen = number(-1000, 1000);
        long apart = random.nextBoolean() ? number(-25, 25) : number(-1000, 1000);
        long wished = seen + apart;
        DUE.is(at + "yaw(" + seen + ", " + wished + ")", car.yaw(seen, wished), plain.yaw(seen, wished));
    }

    private void slip(String at) {
        int w = wheelNumber();
        int side = SIDES[random.nextInt(SIDES.length)];
        if (plain.slipThrows(w)) {
            DUE.slipThrows(car, w, side);
        } else {
            DUE.is(at + "slip(" + w + ", " + side + ")", car.slip(w, side), plain.slip(w, side));
        }
    }

    private void lost(String at) {
        int w = wheelNumber();
        boolean on = losesWheels && random.nextInt(3) == 0;
        DUE.is(at + "lost(" + w + ", " + on + ")", car.lost(w, on), plain.lost(w, on));
    }

    private void hold(String at) {
        boolean on = random.nextInt(4) > 0;
        DUE.is(at + "hold(" + on + ")", car.hold(on), plain.hold(on));
    }

    private void wish(String at) {
        int gear = (int) number(0, 7);
        DUE.is(at + "wish(" + gear + ")", car.wish(gear), plain.wish(gear));
    }

    private void wishOrGear(String at) {
        if (wishesOften || random.nextInt(8) == 0) {
            wish(at);
        } else {
            gear(at);
        }
    }

    private void gear(String at) {
        DUE.is(at + "gear()", car.gear(), plain.gear());
    }

    private void bound(String at) {
        int w = wheelNumber();
        long v = random.nextInt(3) == 0 ? 100 : number(0, 200);
        DUE.is(at + "bound(" + w + ", " + v + ")", car.bound(w, v), plain.bound(w, v));
    }

    private void phase(String at) {
        int w = wheelNumber();
        DUE.is(at + "phase(" + w + ")", car.phase(w), plain.phase(w));
    }

    private void pressure(String at) {
        int w = wheelNumber();
        DUE.is(at + "pressure(" + w + ")", car.pressure(w), plain.pressure(w));
    }

    private void plant(String at) {
        int w = wheelNumber();
        DUE.isModel(at + "plant(" + w + ")", car.plant(w), plain.plant(w));
    }
}
