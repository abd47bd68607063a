/**
 * Brakes and gears of a car. What each call promises stands in ../shared/DOC.md;
 * the words in capitals there are the names used here.
 */
public final class GearBrake {
    private static final int UNKNOWN = -1;
    private static final int OUTSIDE = -2;

    private static final int FREE = 0;
    private static final int HOLDING = 1;
    private static final int RELEASING = 2;
    private static final int BUILDING = 3;

    private static final int LEAST_WHEELS = 2;
    private static final int MOST_WHEELS = 8;
    private static final int USUAL_WHEELS = 4;

    private static final long TOP_SPEED = 1000;
    private static final long FULL_PEDAL = 100;
    private static final long STEEPEST = 30;
    private static final long TOP_TURN = 1000;
    private static final long FIRST_BOUND = 100;
    private static final long TOP_BOUND = 200;

    private static final long REFERENCE_FALL = 3;
    private static final long RELEASE_BELOW = 80;
    private static final long HOLD_BELOW = 90;
    private static final long RELEASED = 10;
    private static final long BUILT = 5;

    private static final long HOLD_PRESSURE = 30;
    private static final long HOLD_TOP_REFERENCE = 20;

    private static final long TURN_ALLOWED = 20;
    private static final long TURN_PRESSURE = 20;
    private static final int WHEEL_AGAINST_LESS = 1;
    private static final int WHEEL_AGAINST_MORE = 2;

    private static final int FIRST_GEAR = 1;
    private static final int LAST_GEAR = 6;
    private static final int REST_AFTER_SHIFT = 3;
    private static final int REST_AFTER_WISH = 10;
    private static final long GEAR_SPAN = 20;
    private static final long UP_ABOVE_SPAN = 10;
    private static final long WISH_BELOW_SPAN = 10;
    private static final long WISH_ABOVE_SPAN = 30;

    // Two longs need fewer divisions than this; it is there so that the loop's end can be seen.
    private static final int MOST_DIVISIONS = 100;

    private final Wheel[] wheels;
    private long reference;
    private boolean held;
    private int gear;
    private int steps;
    private int nextShift;

    public GearBrake(int wheels) {
        boolean fits = wheels >= LEAST_WHEELS && wheels <= MOST_WHEELS;
        this.wheels = new Wheel[fits ? wheels : USUAL_WHEELS];
        for (int i = 0; i < this.wheels.length; i++) {
            this.wheels[i] = new Wheel();
        }
        gear = FIRST_GEAR;
    }

    public int wheel(int w, long speed) {
        Wheel wheel = find(w);
        if (wheel == null) {
            return UNKNOWN;
        }
        if (!isWithin(speed, 0, TOP_SPEED)) {
            return OUTSIDE;
        }
        wheel.speed = speed;
        return 1;
    }

    public int step(long pedal, long slope) {
        if (!isWithin(pedal, 0, FULL_PEDAL) || !isWithin(slope, -STEEPEST, STEEPEST)) {
            return OUTSIDE;
        }
        steps++;
        reference = nextReference(pedal);
        for (int i = 0; i < wheels.length; i++) {
            wheels[i].brake(pedal, reference, held);
            wheels[i].followModel();
        }
        if (reference > HOLD_TOP_REFERENCE) {
            held = false;
        }
        shift(slope);
        return gear;
    }

    public int phase(int w) {
        Wheel wheel = find(w);
        return wheel == null ? UNKNOWN : wheel.phase;
    }

    public long pressure(int w) {
        Wheel wheel = find(w);
        return wheel == null ? UNKNOWN : wheel.pressure;
    }

    public int yaw(long seen, long wished) {
        if (!isWithin(seen, -TOP_TURN, TOP_TURN) || !isWithin(wished, -TOP_TURN, TOP_TURN)) {
            return OUTSIDE;
        }
        if (Math.abs(seen - wished) <= TURN_ALLOWED || countLost() > 0) {
            return 0;
        }
        int number = seen > wished ? WHEEL_AGAINST_MORE : WHEEL_AGAINST_LESS;
        Wheel wheel = find(number);
        if (wheel == null) {
            return 0;
        }
        wheel.press(wheel.pressure + TURN_PRESSURE);
        return number;
    }

    public long slip(int w, int side) throws ArithmeticException {
        Wheel wheel = find(w);
        if (wheel == null) {
            return 0;
        }
        if (reference == 0) {
            throw new ArithmeticException("no slip without a reference");
        }
        long above = reference - wheel.speed;
        long divisor = commonDivisor(Math.abs(above), reference);
        return (side == 0 ? above : reference) / divisor;
    }

    public int gear() {
        return gear;
    }

    public int lost(int w, boolean on) {
        Wheel wheel = find(w);
        if (wheel == null) {
            return UNKNOWN;
        }
        wheel.lost = on;
        return countLost();
    }

    public int hold(boolean on) {
        held = on && (held || reference == 0);
        return held ? 1 : 0;
    }

    public int wish(int gear) {
        if (!isWithin(gear, FIRST_GEAR, LAST_GEAR)) {
            return OUTSIDE;
        }
        long least = GEAR_SPAN * (gear - 1) - WISH_BELOW_SPAN;
        long most = GEAR_SPAN * gear + WISH_ABOVE_SPAN;
        if (!isWithin(reference, least, most)) {
            return 0;
        }
        change(gear, REST_AFTER_WISH);
        return 1;
    }

    public long reference() {
        return reference;
    }

    public double plant(int w) {
        Wheel wheel = find(w);
        return wheel == null ? 0.0 : wheel.model;
    }

    public int bound(int w, long v) {
        Wheel wheel = find(w);
        if (wheel == null) {
            return UNKNOWN;
        }
        if (!isWithin(v, 0, TOP_BOUND)) {
            return OUTSIDE;
        }
        wheel.bound = v;
        wheel.press(wheel.pressure);
        return 1;
    }

    public int mode() {
        if (held) {
            return 2;
        }
        return countLost() > 0 ? 1 : 0;
    }

    private static boolean isWithin(long value, long least, long most) {
        return value >= least && value <= most;
    }

    /** The wheel of that number, or null if there is none. */
    private Wheel find(int w) {
        return w >= 1 && w <= wheels.length ? wheels[w - 1] : null;
    }

    private int countLost() {
        int count = 0;
        for (int i = 0; i < wheels.length; i++) {
            if (wheels[i].lost) {
                count++;
            }
        }
        return count;
    }

    private long nextReference(long pedal) {
        long fallen = Math.max(reference - REFERENCE_FALL, 0);
        if (countLost() == wheels.length) {
            return fallen;
        }
        long greatest = greatestSpeed();
        return pedal > 0 ? Math.max(greatest, fallen) : greatest;
    }

    /** The greatest speed of the wheels that are not lost; 0 if all are. */
    private long greatestSpeed() {
        long greatest = 0;
        for (int i = 0; i < wheels.length; i++) {
            if (!wheels[i].lost) {
                greatest = Math.max(greatest, wheels[i].speed);
            }
        }
        return greatest;
    }

    private void shift(long slope) {
        if (steps < nextShift) {
            return;
        }
        if (gear < LAST_GEAR && reference > GEAR_SPAN * gear + UP_ABOVE_SPAN + Math.max(slope, 0)) {
            change(gear + 1, REST_AFTER_SHIFT);
        } else if (gear > FIRST_GEAR && reference < GEAR_SPAN * (gear - 1)) {
            change(gear - 1, REST_AFTER_SHIFT);
        }
    }

    private void change(int wanted, int rest) {
        gear = wanted;
        nextShift = steps + rest;
    }

    /** The greatest common divisor of two numbers that are not negative; at least 1, so that it can divide. */
    private static long commonDivisor(long one, long other) {
        long a = one;
        long b = other;
        for (int i = 0; i < MOST_DIVISIONS && b != 0; i++) {
            long rest = a % b;
            a = b;
            b = rest;
        }
        return Math.max(a, 1);
    }

    private static final class Wheel {
        private long speed;
        private boolean lost;
        private int phase = FREE;
        private long pressure;
        private long bound = FIRST_BOUND;
        private double model;

        private void brake(long pedal, long reference, boolean held) {
            phase = nextPhase(pedal, reference);
            long wanted = wantedPressure(pedal);
            press(held ? Math.max(wanted, HOLD_PRESSURE) : wanted);
        }

        private int nextPhase(long pedal, long reference) {
            if (lost || reference == 0 || pedal == 0) {
                return FREE;
            }
            if (100 * speed < RELEASE_BELOW * reference) {
                return RELEASING;
            }
            if (100 * speed < HOLD_BELOW * reference) {
                return HOLDING;
            }
            boolean builds = phase == HOLDING || phase == RELEASING
                || phase == BUILDING && pressure < pedal;
            return builds ? BUILDING : FREE;
        }

        private long wantedPressure(long pedal) {
            switch (phase) {
                case HOLDING:
                    return pressure;
                case RELEASING:
                    return Math.max(pressure - RELEASED, 0);
                case BUILDING:
                    return Math.min(pressure + BUILT, pedal);
                default:
                    return pedal;
            }
        }

        private void press(long wanted) {
            pressure = Math.min(wanted, bound);
        }

        // The document fixes the order of these operations, and with it the last bits of the answer.
        private void followModel() {
            double pulled = model + 0.125 * ((double) speed - model);
            double braked = pulled - 0.0625 * (double) pressure;
            model = braked < 0.0 ? 0.0 : braked;
        }
    }
}
