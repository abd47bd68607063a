import java.util.Arrays;

/** Cars in the states that the tests begin from. */
final class Cars {
    static final int FREE = 0;
    static final int HOLDING = 1;
    static final int RELEASING = 2;
    static final int BUILDING = 3;

    /** Numbers that are no wheel of a car of four. */
    static final int[] NO_WHEELS = {0, 5, -1, 8, 9, Integer.MIN_VALUE, Integer.MAX_VALUE};

    private Cars() {
    }

    /** A car whose wheels have these speeds, after no step. */
    static GearBrake rolling(long... speeds) {
        GearBrake car = new GearBrake(speeds.length);
        for (int i = 0; i < speeds.length; i++) {
            car.wheel(i + 1, speeds[i]);
        }
        return car;
    }

    static void steps(GearBrake car, int times, long pedal, long slope) {
        for (int i = 0; i < times; i++) {
            car.step(pedal, slope);
        }
    }

    /** A car whose wheels all have the speed 40, in gear 2, after one step with the pedal at 50. */
    static GearBrake braking(int wheels) {
        long[] speeds = new long[wheels];
        Arrays.fill(speeds, 40);
        GearBrake car = rolling(speeds);
        car.step(50, 0);
        return car;
    }

    /** A car of two wheels whose reference is as given, after one step with no pedal. */
    static GearBrake withReference(long reference) {
        GearBrake car = rolling(reference, reference);
        car.step(0, 0);
        return car;
    }
}
