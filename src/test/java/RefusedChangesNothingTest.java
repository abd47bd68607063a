import java.util.function.ToLongFunction;

/** "REFUSALS change nothing": two cars in one state, one of them refuses a call, and both go on alike. */
final class RefusedChangesNothingTest {
    private static final Due DUE = new Due("refusals change nothing");
    private static final Range TURNS = new Range(-1000, 1000);

    public static void main(String[] args) {
        for (States.State state : States.all()) {
            theTestSeesAChange(state);
            refusedWheel(state);
            refusedStep(state);
            refusedPhaseAndPressure(state);
            refusedYaw(state);
            refusedSlip(state);
            refusedLost(state);
            refusedWish(state);
            refusedPlant(state);
            refusedBound(state);
            callsThatOnlyTell(state);
            callsThatComeToNothing(state);
        }
        DUE.end();
    }

    private static void staysAfter(States.State state, String what, ToLongFunction<GearBrake> call, long due) {
        GearBrake car = state.car();
        DUE.is(state.name + ": " + what, call.applyAsLong(car), due);
        DUE.isText(state.name + ", after " + what, States.toldAfterSteps(car), States.toldAfterSteps(state.car()));
    }

    /** Were the text blind, all else here would hold for nothing. */
    private static void theTestSeesAChange(States.State state) {
        DUE.by("the comparison sees each kind of change");
        String before = States.toldAfterSteps(state.car());
        for (int w = 1; w <= 2; w++) {
            int wheel = w;
            changes(state, before, "wheel(" + w + ", 3)", car -> car.wheel(wheel, 3));
            changes(state, before, "bound(" + w + ", 55)", car -> car.bound(wheel, 55));
            changes(state, before, "bound(" + w + ", 150)", car -> car.bound(wheel, 150));
        }
        changes(state, before, "step(100, 0)", car -> car.step(100, 0));
        if (state.name.endsWith("just shifted")) {
            changes(state, before, "step(50, 0), the gear's rest", car -> car.step(50, 0));
            changes(state, before, "wish(gear())", car -> car.wish(car.gear()));
        }
    }

    private static void changes(States.State state, String before, String what, ToLongFunction<GearBrake> call) {
        GearBrake car = state.car();
        call.applyAsLong(car);
        DUE.isTrue(state.name + ": " + what + " is seen", !States.toldAfterSteps(car).equals(before));
    }

    private static int[] noWheels(States.State state) {
        return new Range(1, state.wheels).outsideInts();
    }

    private static void refusedWheel(States.State state) {
        DUE.by("REFUSALS change nothing: wheel");
        for (int w : noWheels(state)) {
            staysAfter(state, "wheel(" + w + ", 700)", car -> car.wheel(w, 700), -1);
            staysAfter(state, "wheel(" + w + ", 1001)", car -> car.wheel(w, 1001), -1);
        }
        for (long speed : new Range(0, 1000).outside()) {
            for (int w = 1; w <= state.wheels; w++) {
                int wheel = w;
                staysAfter(state, "wheel(" + w + ", " + speed + ")", car -> car.wheel(wheel, speed), -2);
            }
        }
    }

    private static void refusedStep(States.State state) {
        DUE.by("REFUSALS change nothing: step");
        for (long pedal : new Range(0, 100).outside()) {
            staysAfter(state, "step(" + pedal + ", 0)", car -> car.step(pedal, 0), -2);
            staysAfter(state, "step(" + pedal + ", 31)", car -> car.step(pedal, 31), -2);
        }
        for (long slope : new Range(-30, 30).outside()) {
            staysAfter(state, "step(0, " + slope + ")", car -> car.step(0, slope), -2);
            staysAfter(state, "step(100, " + slope + ")", car -> car.step(100, slope), -2);
        }
    }

    private static void refusedPhaseAndPressure(States.State state) {
        DUE.by("REFUSALS change nothing: phase, pressure");
        for (int w : noWheels(state)) {
            staysAfter(state, "phase(" + w + ")", car -> car.phase(w), -1);
            staysAfter(state, "pressure(" + w + ")", car -> car.pressure(w), -1);
        }
    }

    private static void refusedYaw(States.State state) {
        DUE.by("REFUSALS change nothing: yaw");
        for (long turn : TURNS.outside()) {
            for (long other : new long[] {0, 1000, -1000, turn}) {
                staysAfter(state, "yaw(" + turn + ", " + other + ")", car -> car.yaw(turn, other), -2);
                staysAfter(state, "yaw(" + other + ", " + turn + ")", car -> car.yaw(other, turn), -2);
            }
        }
    }

    private static void refusedSlip(States.State state) {
        DUE.by("slip: 0 if there is no wheel: nothing changes");
        for (int w : noWheels(state)) {
            staysAfter(state, "slip(" + w + ", 0)", car -> car.slip(w, 0), 0);
            staysAfter(state, "slip(" + w + ", 1)", car -> car.slip(w, 1), 0);
        }
    }

    private static void refusedLost(States.State state) {
        DUE.by("REFUSALS change nothing: lost");
        for (int w : noWheels(state)) {
            staysAfter(state, "lost(" + w + ", true)", car -> car.lost(w, true), -1);
            staysAfter(state, "lost(" + w + ", false)", car -> car.lost(w, false), -1);
        }
    }

    private static void refusedWish(States.State state) {
        DUE.by("REFUSALS change nothing: wish");
        for (int gear : new Range(1, 6).outsideInts()) {
            staysAfter(state, "wish(" + gear + ")", car -> car.wish(gear), -2);
        }
    }

    private static void refusedPlant(States.State state) {
        DUE.by("plant: 0 if there is none: nothing changes");
        for (int w : noWheels(state)) {
            staysAfter(state, "plant(" + w + ")", car -> car.plant(w) == 0.0 ? 1 : 0, 1);
        }
    }

    private static void refusedBound(States.State state) {
        DUE.by("REFUSALS change nothing: bound");
        for (int w : noWheels(state)) {
            staysAfter(state, "bound(" + w + ", 5)", car -> car.bound(w, 5), -1);
            staysAfter(state, "bound(" + w + ", 201)", car -> car.bound(w, 201), -1);
        }
        for (long v : new Range(0, 200).outside()) {
            for (int w = 1; w <= state.wheels; w++) {
                int wheel = w;
                staysAfter(state, "bound(" + w + ", " + v + ")", car -> car.bound(wheel, v), -2);
            }
        }
    }

    private static void callsThatOnlyTell(States.State state) {
        DUE.by("gear, reference, mode, phase, pressure, plant, slip: they tell, and change nothing");
        GearBrake car = state.car();
        States.told(car);
        DUE.isText(state.name + ", after all was told", States.toldAfterSteps(car), States.toldAfterSteps(state.car()));
    }

    /** A yaw that is not far enough, a wish that does not fit, a hold that does not come. */
    private static void callsThatComeToNothing(States.State state) {
        DUE.by("yaw 0, wish 0: nothing changes");
        for (long apart : new long[] {-20, -1, 0, 1, 20}) {
            staysAfter(state, "yaw(" + apart + ", 0)", car -> car.yaw(apart, 0), 0);
        }
        for (int gear = 1; gear <= 6; gear++) {
            int wished = gear;
            if (state.car().wish(gear) == 0) {
                staysAfter(state, "wish(" + gear + ")", car -> car.wish(wished), 0);
            }
        }
        if (state.car().hold(true) == 0) {
            staysAfter(state, "hold(true)", car -> car.hold(true), 0);
        }
    }
}
