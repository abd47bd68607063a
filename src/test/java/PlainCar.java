/** The car of the document once more, sentence by sentence and as slowly as it likes, to compare GearBrake with. */
final class PlainCar {
    final int wheels;
    private final long[] speed;
    private final boolean[] lost;
    private final int[] phase;
    private final long[] pressure;
    private final long[] bound;
    private final double[] model;
    private long reference;
    private int gear = 1;
    private boolean hold;
    private int time;
    private int changed = -1000;
    private boolean changedByWish;

    PlainCar(int asked) {
        wheels = 2 <= asked && asked <= 8 ? asked : 4;
        speed = new long[wheels + 1];
        lost = new boolean[wheels + 1];
        phase = new int[wheels + 1];
        pressure = new long[wheels + 1];
        bound = new long[wheels + 1];
        model = new double[wheels + 1];
        for (int w = 1; w <= wheels; w++) {
            bound[w] = 100;
        }
    }

    private boolean isWheel(int w) {
        return 1 <= w && w <= wheels;
    }

    private int lostOnes() {
        int count = 0;
        for (int w = 1; w <= wheels; w++) {
            if (lost[w]) {
                count++;
            }
        }
        return count;
    }

    long wheel(int w, long v) {
        if (!isWheel(w)) {
            return -1;
        }
        if (v < 0 || v > 1000) {
            return -2;
        }
        speed[w] = v;
        return 1;
    }

    long step(long pedal, long slope) {
        if (pedal < 0 || pedal > 100 || slope < -30 || slope > 30) {
            return -2;
        }
        time++;
        pointOne(pedal);
        for (int w = 1; w <= wheels; w++) {
            phase[w] = pointTwoPhase(w, pedal);
            pressure[w] = pointTwoPressure(w, pedal);
            pointThree(w);
        }
        if (reference > 20) {
            hold = false;
        }
        pointFive(slope);
        return gear;
    }

    private void pointOne(long pedal) {
        long less = reference < 3 ? 0 : reference - 3;
        long greatest = -1;
        for (int w = 1; w <= wheels; w++) {
            if (!lost[w] && speed[w] > greatest) {
                greatest = speed[w];
            }
        }
        if (greatest == -1) {
            reference = less;
        } else if (pedal > 0 && greatest < less) {
            reference = less;
        } else {
            reference = greatest;
        }
    }

    private int pointTwoPhase(int w, long pedal) {
        if (lost[w]) {
            return 0;
        }
        if (reference == 0) {
            return 0;
        }
        if (pedal == 0) {
            return 0;
        }
        if (speed[w] * 5 < reference * 4) {
            return 2;
        }
        if (speed[w] * 10 < reference * 9) {
            return 1;
        }
        if (phase[w] == 1 || phase[w] == 2) {
            return 3;
        }
        if (phase[w] == 3 && pressure[w] < pedal) {
            return 3;
        }
        return 0;
    }

    private long pointTwoPressure(int w, long pedal) {
        long p = pressure[w];
        if (phase[w] == 0) {
            p = pedal;
        }
        if (phase[w] == 2) {
            p = p <= 10 ? 0 : p - 10;
        }
        if (phase[w] == 3) {
            p = p + 5 > pedal ? pedal : p + 5;
        }
        if (hold && p < 30) {
            p = 30;
        }
        return p > bound[w] ? bound[w] : p;
    }

    private void pointThree(int w) {
        double x = model[w];
        x = x + 0.125 * (speed[w] - x);
        x = x - 0.0625 * pressure[w];
        if (x < 0) {
            x = 0;
        }
        model[w] = x;
    }

    private void pointFive(long slope) {
        int back = time - changed;
        if (back < (changedByWish ? 10 : 3)) {
            return;
        }
        long line = 20L * gear + 10;
        if (slope > 0) {
            line += slope;
        }
        if (gear < 6 && reference > line) {
            gear++;
            changed = time;
            changedByWish = false;
        } else if (gear > 1 && reference < 20L * (gear - 1)) {
            gear--;
            changed = time;
            changedByWish = false;
        }
    }

    long phase(int w) {
        return isWheel(w) ? phase[w] : -1;
    }

    long pressure(int w) {
        return isWheel(w) ? pressure[w] : -1;
    }

    long yaw(long seen, long wished) {
        if (seen < -1000 || seen > 1000 || wished < -1000 || wished > 1000) {
            return -2;
        }
        if (lostOnes() > 0) {
            return 0;
        }
        int w = seen - wished > 20 ? 2 : wished - seen > 20 ? 1 : 0;
        if (w != 0) {
            pressure[w] = pressure[w] + 20 > bound[w] ? bound[w] : pressure[w] + 20;
        }
        return w;
    }

    boolean slipThrows(int w) {
        return isWheel(w) && reference == 0;
    }

    /** The answer of a slip that does not throw. */
    long slip(int w, int side) {
        if (!isWheel(w)) {
            return 0;
        }
        long above = reference - speed[w];
        long below = reference;
        for (long d = reference; d >= 2; d--) {
            if (above % d == 0 && below % d == 0) {
                above /= d;
                below /= d;
            }
        }
        return side == 0 ? above : below;
    }

    long gear() {
        return gear;
    }

    long lost(int w, boolean on) {
        if (!isWheel(w)) {
            return -1;
        }
        lost[w] = on;
        return lostOnes();
    }

    long hold(boolean on) {
        if (!on) {
            hold = false;
        } else if (reference == 0) {
            hold = true;
        }
        return hold ? 1 : 0;
    }

    long wish(int wished) {
        if (wished < 1 || wished > 6) {
            return -2;
        }
        if (reference < 20L * (wished - 1) - 10 || reference > 20L * wished + 30) {
            return 0;
        }
        gear = wished;
        changed = time;
        changedByWish = true;
        return 1;
    }

    long reference() {
        return reference;
    }

    double plant(int w) {
        return isWheel(w) ? model[w] : 0;
    }

    long bound(int w, long v) {
        if (!isWheel(w)) {
            return -1;
        }
        if (v < 0 || v > 200) {
            return -2;
        }
        bound[w] = v;
        if (pressure[w] > v) {
            pressure[w] = v;
        }
        return 1;
    }

    long mode() {
        return hold ? 2 : lostOnes() > 0 ? 1 : 0;
    }
}
