import java.util.Random;

/** Runs of 512 mixed calls, wrong ones too: nothing but slip's exception is thrown, and all stays in its range. */
final class NothingElseThrowsTest {
    private static final Due DUE = new Due("all promises, mixed calls");
    private static final int RUNS = 400;
    private static final int CALLS = 512;
    private static final long[] EXTREMES = {Long.MIN_VALUE, Long.MAX_VALUE, Integer.MIN_VALUE, Integer.MAX_VALUE,
        -1, 0, 1, 1L << 32, -1001, 1001, 201, 101, 31, -31};

    private final Random random;
    private final GearBrake car;
    private final int wheels;
    private final long[] bounds;

    private NothingElseThrowsTest(long seed) {
        random = new Random(seed);
        int asked = random.nextInt(12);
        car = new GearBrake(asked);
        wheels = asked >= 2 && asked <= 8 ? asked : 4;
        bounds = new long[wheels + 1];
        java.util.Arrays.fill(bounds, 100);
    }

    public static void main(String[] args) {
        for (int run = 0; run < RUNS; run++) {
            NothingElseThrowsTest test = new NothingElseThrowsTest(run);
            for (int i = 0; i < CALLS; i++) {
                test.call();
            }
            test.allIsInRange("run " + run);
        }
        DUE.end();
    }

    private long number(long least, long most) {
        if (random.nextInt(12) == 0) {
            return EXTREMES[random.nextInt(EXTREMES.length)];
        }
        return least + random.nextInt((int) (most - least + 1));
    }

    private int wheel() {
        return (int) number(1, wheels);
    }

    private void call() {
        try {
            choose(random.nextInt(20));
            DUE.isTrue("a call that does not throw", true);
        } catch (RuntimeException e) {
            DUE.isTrue("a call that does not throw " + e, false);
        }
    }

    private void choose(int kind) {
        switch (kind) {
            case 0: case 1: case 2: car.wheel(wheel(), number(0, random.nextBoolean() ? 1000 : 150)); break;
            case 3: car.yaw(number(-60, 60), number(-60, 60)); break;
            case 4: slip(wheel(), (int) number(0, 1)); break;
            case 5: car.lost(wheel(), random.nextInt(3) == 0); break;
            case 6: car.hold(random.nextBoolean()); break;
            case 7: car.wish((int) number(1, 6)); break;
            case 8: bound(wheel(), number(0, 200)); break;
            case 9: car.phase(wheel()); break;
            case 10: car.pressure(wheel()); break;
            case 11: car.plant(wheel()); break;
            case 12: allIsInRange("between"); break;
            default: car.step(number(0, 100), number(-30, 30)); break;
        }
    }

    private void slip(int w, int side) {
        boolean due = w >= 1 && w <= wheels && car.reference() == 0;
        if (due) {
            DUE.slipThrows(car, w, side);
        } else {
            car.slip(w, side);
        }
    }

    private void bound(int w, long v) {
        if (car.bound(w, v) == 1) {
            bounds[w] = v;
        }
    }

    private void allIsInRange(String when) {
        for (int w = 1; w <= wheels; w++) {
            DUE.isTrue(when + ": phase in range", car.phase(w) >= 0 && car.phase(w) <= 3);
            DUE.isTrue(when + ": pressure in range", car.pressure(w) >= 0 && car.pressure(w) <= bounds[w]);
            DUE.isTrue(when + ": model in range", car.plant(w) >= 0.0 && car.plant(w) <= 1000.0);
        }
        DUE.isTrue(when + ": reference in range", car.reference() >= 0 && car.reference() <= 1000);
        DUE.isTrue(when + ": gear in range", car.gear() >= 1 && car.gear() <= 6);
        DUE.isTrue(when + ": mode in range", car.mode() >= 0 && car.mode() <= 2);
    }
}
