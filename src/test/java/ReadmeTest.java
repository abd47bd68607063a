import java.io.IOException;
import java.lang.reflect.InvocationTargetException;
import java.lang.reflect.Method;
import java.lang.reflect.Modifier;
import java.nio.file.Files;
import java.nio.file.Path;
import java.util.ArrayList;
import java.util.List;
import java.util.Set;
import java.util.TreeSet;
import java.util.regex.Matcher;
import java.util.regex.Pattern;

/** The examples of README.md: each call that a java block there shows is made, and answers what its comment begins with. */
final class ReadmeTest {
    private static final Due DUE = new Due("the examples of README.md");
    private static final String OPENS = "```java";
    private static final String CLOSES = "```";
    private static final Pattern NEW_CAR = Pattern.compile("GearBrake car = new GearBrake\\((-?\\d+)\\);(\\s*//.*)?");
    private static final Pattern CALL = Pattern.compile("(car\\.(\\w+)\\(([^()]*)\\));\\s*// ([^\\s:]+)(:.*)?");

    private static final Set<String> shown = new TreeSet<>();

    public static void main(String[] args) throws IOException, IllegalAccessException {
        String readme = System.getProperty("readme");
        DUE.isTrue("the property readme is set", readme != null);
        List<List<String>> examples = examples(Files.readAllLines(Path.of(readme)));
        DUE.isTrue("README.md has an example", !examples.isEmpty());
        for (List<String> example : examples) {
            play(example);
        }
        everyCallIsShown();
        DUE.end();
    }

    /** The lines of each java block. */
    private static List<List<String>> examples(List<String> lines) {
        List<List<String>> examples = new ArrayList<>();
        List<String> open = null;
        for (String line : lines) {
            if (line.equals(OPENS)) {
                open = new ArrayList<>();
            } else if (open != null && line.equals(CLOSES)) {
                examples.add(open);
                open = null;
            } else if (open != null) {
                open.add(line);
            } else {
                DUE.isTrue("\"" + line + "\" opens no java block that would be passed over", !line.contains(OPENS));
            }
        }
        DUE.isTrue("the last java block is closed", open == null);
        return examples;
    }

    /** A line that is neither a new car nor a call with its answer would be an example that nothing looks at. */
    private static void play(List<String> example) throws IllegalAccessException {
        GearBrake car = null;
        for (String line : example) {
            Matcher newCar = NEW_CAR.matcher(line);
            Matcher call = CALL.matcher(line);
            if (newCar.matches() && car == null) {
                car = new GearBrake(Integer.parseInt(newCar.group(1)));
                DUE.by(line);
            } else if (call.matches() && car != null) {
                DUE.isText(call.group(1), answer(car, call.group(2), call.group(3)), call.group(4));
            } else {
                DUE.isTrue("\"" + line + "\": a call on the car with its answer", line.isBlank());
            }
        }
    }

    /** The answer as Java writes it, or the name of the exception that was thrown. */
    private static String answer(GearBrake car, String name, String written) throws IllegalAccessException {
        String[] texts = written.isEmpty() ? new String[0] : written.split(", ");
        for (Method method : GearBrake.class.getDeclaredMethods()) {
            if (method.getName().equals(name) && method.getParameterCount() == texts.length) {
                shown.add(name);
                return invoke(car, method, texts);
            }
        }
        return "not a call of the class";
    }

    private static String invoke(GearBrake car, Method method, String[] texts) throws IllegalAccessException {
        Object[] values = new Object[texts.length];
        for (int i = 0; i < texts.length; i++) {
            values[i] = value(method.getParameterTypes()[i], texts[i]);
        }
        try {
            return String.valueOf(method.invoke(car, values));
        } catch (InvocationTargetException e) {
            return e.getCause().getClass().getSimpleName();
        }
    }

    /** A number is read as an int for a long too: a longer one without its L would not compile. */
    private static Object value(Class<?> type, String text) {
        if (type == boolean.class) {
            DUE.isTrue(text + " is true or false", text.equals("true") || text.equals("false"));
            return text.equals("true");
        }
        int number = Integer.parseInt(text);
        return type == long.class ? (Object) Long.valueOf(number) : (Object) Integer.valueOf(number);
    }

    private static void everyCallIsShown() {
        DUE.by("README.md says how to use the class");
        for (Method method : GearBrake.class.getDeclaredMethods()) {
            if (Modifier.isPublic(method.getModifiers())) {
                DUE.isTrue("an example calls " + method.getName(), shown.contains(method.getName()));
            }
        }
    }
}
