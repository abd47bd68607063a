import java.util.ArrayList;
import java.util.List;
import java.util.function.Consumer;

/** What can be seen of a car, as a text, and cars in the states from which it is looked at. */
final class States {
    private static final int STEPS = 11;

    /** A state by its name, how many wheels the car has, and the calls that lead to it. */
    static final class State {
        final String name;
        final int wheels;
        private final Consumer<GearBrake> calls;

        State(String name, int wheels, Consumer<GearBrake> calls) {
            this.name = name;
            this.wheels = wheels;
            this.calls = calls;
        }

        GearBrake car() {
            GearBrake car = new GearBrake(wheels);
            calls.accept(car);
            return car;
        }
    }

    private States() {
    }

    static List<State> all() {
        List<State> states = new ArrayList<>();
        states.add(new State("new", 2, car -> { }));
        states.add(new State("new, four wheels", 4, car -> { }));
        states.add(new State("in all phases, just shifted", 4, States::bringToAllPhases));
        states.add(new State("held", 3, car -> {
            car.hold(true);
            car.wheel(1, 20);
            car.step(10, 0);
        }));
        states.add(new State("one lost, just wished", 3, car -> {
            speeds(car, 70, 66, 900);
            car.lost(3, true);
            car.step(20, 0);
            car.wish(3);
            speeds(car, 160, 160, 160);
        }));
        states.add(new State("all lost", 2, car -> {
            speeds(car, 61, 50);
            car.step(0, 0);
            car.lost(1, true);
            car.lost(2, true);
            car.step(30, 5);
        }));
        states.add(new State("bound and pressed", 4, car -> {
            speeds(car, 100, 100, 100, 100);
            car.bound(1, 200);
            car.bound(2, 7);
            car.bound(4, 0);
            car.step(99, 0);
            car.yaw(0, 100);
            car.yaw(0, 100);
        }));
        return states;
    }

    private static void speeds(GearBrake car, long... speeds) {
        for (int i = 0; i < speeds.length; i++) {
            car.wheel(i + 1, speeds[i]);
        }
    }

    private static void bringToAllPhases(GearBrake car) {
        speeds(car, 30, 30, 30, 30);
        car.step(50, 0);
        speeds(car, 30, 30, 30, 20);
        car.step(50, 0);
        speeds(car, 70, 60, 50, 65);
        car.step(50, 0);
    }

    /** All that the calls without an effect answer. */
    static String told(GearBrake car) {
        StringBuilder text = new StringBuilder();
        text.append(car.reference()).append(" gear ").append(car.gear()).append(" mode ").append(car.mode());
        for (int w = 1; car.phase(w) != -1; w++) {
            text.append(" | ").append(car.phase(w)).append(' ').append(car.pressure(w));
            text.append(' ').append(car.plant(w)).append(' ').append(slip(car, w));
        }
        return text.toString();
    }

    private static String slip(GearBrake car, int w) {
        try {
            return car.slip(w, 0) + "/" + car.slip(w, 1);
        } catch (ArithmeticException e) {
            return "none";
        }
    }

    /** As told(), and then what steps show of what is hidden: the speeds, the bounds, the rest of the gear, a hold asked for. */
    static String toldAfterSteps(GearBrake car) {
        StringBuilder text = new StringBuilder(told(car));
        for (int i = 0; i < STEPS; i++) {
            text.append("\n").append(car.step(i % 3 == 0 ? 100 : 40, 0)).append(": ").append(told(car));
        }
        text.append("\n").append(car.step(0, 0)).append(": ").append(told(car));
        // A lost wheel would keep yaw from showing the bounds above 100.
        for (int w = 1; w <= 4; w++) {
            text.append(' ').append(car.lost(w, false));
        }
        for (int i = 0; i < 11; i++) {
            text.append("\n").append(car.yaw(0, 100)).append(' ').append(car.pressure(1));
            text.append(' ').append(car.yaw(100, 0)).append(' ').append(car.pressure(2));
        }
        return text.append("\n").append(car.hold(true)).append(' ').append(told(car)).toString();
    }
}
