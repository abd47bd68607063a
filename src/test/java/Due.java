/** Compares answers with what is due, prints each that differs, and ends the program with 1 if one did. */
final class Due {
    private final String title;
    private int calls;
    private int wrong;

    Due(String title) {
        this.title = title;
    }

    void is(String call, long got, long want) {
        calls++;
        if (got != want) {
            tell(call + " answered " + got + ", due is " + want);
        }
    }

    /** Doubles are due to the last bit; both zeros are the same. */
    void isModel(String call, double got, double want) {
        calls++;
        if (got != want) {
            tell(call + " answered " + got + ", due is " + want);
        }
    }

    void isTrue(String what, boolean holds) {
        calls++;
        if (!holds) {
            tell(what + " does not hold");
        }
    }

    void slipThrows(GearBrake car, int w, int side) {
        calls++;
        try {
            long got = car.slip(w, side);
            tell("slip(" + w + ", " + side + ") answered " + got + ", due is an ArithmeticException");
        } catch (ArithmeticException e) {
            if (e.getClass() != ArithmeticException.class) {
                tell("slip(" + w + ", " + side + ") threw " + e);
            }
        }
    }

    void slipIs(GearBrake car, int w, long above, long below) {
        is("slip(" + w + ", 0)", car.slip(w, 0), above);
        is("slip(" + w + ", 1)", car.slip(w, 1), below);
    }

    void wheelIs(GearBrake car, int w, int phase, long pressure) {
        is("phase(" + w + ")", car.phase(w), phase);
        is("pressure(" + w + ")", car.pressure(w), pressure);
    }

    void end() {
        System.out.println(title + ": " + (calls - wrong) + " of " + calls + " as due");
        if (wrong > 0 || calls == 0) {
            System.exit(1);
        }
    }

    private void tell(String what) {
        wrong++;
        System.out.println(title + ": " + what);
    }
}
