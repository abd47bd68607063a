/** Compares answers with what is due, prints each that differs, and ends the program with 1 if one did. */
final class Due {
    private final String title;
    private String sentence = "";
    private int calls;
    private int callsOfSentence;
    private int wrong;

    Due(String title) {
        this.title = title;
    }

    /** The sentence of the document that the answers from now on are due by. */
    void by(String next) {
        sentenceHasCalls();
        sentence = next;
        callsOfSentence = 0;
    }

    void is(String call, long got, long want) {
        count();
        if (got != want) {
            tell(call + " answered " + got + ", due is " + want);
        }
    }

    /** Doubles are due to the last bit; both zeros are the same. */
    void isModel(String call, double got, double want) {
        count();
        if (got != want) {
            tell(call + " answered " + got + ", due is " + want);
        }
    }

    void isText(String what, String got, String want) {
        count();
        if (!got.equals(want)) {
            tell(what + " is " + got + ", due is " + want);
        }
    }

    void isTrue(String what, boolean holds) {
        count();
        if (!holds) {
            tell(what + " does not hold");
        }
    }

    void slipThrows(GearBrake car, int w, int side) {
        count();
        try {
            long got = car.slip(w, side);
            tell("slip(" + w + ", " + side + ") answered " + got + ", due is an ArithmeticException");
        } catch (ArithmeticException e) {
            if (e.getClass() != ArithmeticException.class) {
                tell("slip(" + w + ", " + side + ") threw " + e);
            }
        }
    }

    void slipIs(GearBrake car, int w, long above, long below) {
        is("slip(" + w + ", 0)", car.slip(w, 0), above);
        is("slip(" + w + ", 1)", car.slip(w, 1), below);
    }

    void wheelIs(GearBrake car, int w, int phase, long pressure) {
        is("phase(" + w + ")", car.phase(w), phase);
        is("pressure(" + w + ")", car.pressure(w), pressure);
    }

    void end() {
        sentenceHasCalls();
        System.out.println(title + ": " + (calls - wrong) + " of " + calls + " as due");
        if (wrong > 0 || calls == 0) {
            System.exit(1);
        }
    }

    private void count() {
        calls++;
        callsOfSentence++;
    }

    /** A sentence that nothing was compared for would look as if it held. */
    private void sentenceHasCalls() {
        if (!sentence.isEmpty() && callsOfSentence == 0) {
            tell("nothing was compared");
        }
    }

    private void tell(String what) {
        wrong++;
        System.out.println(title + (sentence.isEmpty() ? "" : ", \"" + sentence + "\"") + ": " + what);
    }
}
