import java.io.IOException;
import java.lang.reflect.Constructor;
import java.lang.reflect.Field;
import java.lang.reflect.Method;
import java.lang.reflect.Modifier;
import java.nio.file.Files;
import java.nio.file.Path;
import java.util.Arrays;
import java.util.Set;
import java.util.TreeSet;

/** The rules of LANGUAGE.md that a program can look at: the face (rule 1) and words that the other rules exclude. */
final class LanguageTest {
    private static final Due DUE = new Due("the rules of the language");
    private static final Set<String> FACE = Set.of(
        "int wheel(int,long)", "int step(long,long)", "int phase(int)", "long pressure(int)", "int yaw(long,long)",
        "long slip(int,int) throws ArithmeticException", "int gear()", "int lost(int,boolean)", "int hold(boolean)",
        "int wish(int)", "long reference()", "double plant(int)", "int bound(int,long)", "int mode()");
    private static final String[] EXCLUDED = {
        "import ", "package ", "->", "::", "catch", "finally", "synchronized", "assert", "System.", "static {",
        "Exact(", "equals(", "hashCode", "toString", "Object", "record ", "Thread", "(double) (", "protected "};

    public static void main(String[] args) throws IOException {
        theClass();
        theMethods();
        theClassesInside();
        theText();
        DUE.end();
    }

    private static void theClass() {
        DUE.is("the class's modifiers", GearBrake.class.getModifiers(), Modifier.PUBLIC | Modifier.FINAL);
        Constructor<?>[] constructors = GearBrake.class.getDeclaredConstructors();
        DUE.is("how many constructors", constructors.length, 1);
        DUE.isTrue("the constructor is public", Modifier.isPublic(constructors[0].getModifiers()));
        DUE.isTrue("the constructor takes an int", Arrays.equals(constructors[0].getParameterTypes(), new Class<?>[] {int.class}));
        for (Field field : GearBrake.class.getDeclaredFields()) {
            int modifiers = field.getModifiers();
            DUE.isTrue(field.getName() + " is private", Modifier.isPrivate(modifiers));
            DUE.isTrue(field.getName() + " is final if static", !Modifier.isStatic(modifiers) || Modifier.isFinal(modifiers));
        }
    }

    private static void theMethods() {
        Set<String> found = new TreeSet<>();
        Set<String> publicNames = new TreeSet<>();
        Set<String> privateNames = new TreeSet<>();
        for (Method method : GearBrake.class.getDeclaredMethods()) {
            if (Modifier.isPrivate(method.getModifiers())) {
                privateNames.add(method.getName());
            } else {
                DUE.is(method + " is public alone", method.getModifiers(), Modifier.PUBLIC);
                publicNames.add(method.getName());
                found.add(written(method));
            }
        }
        DUE.isTrue("the face is the document's: " + found, found.equals(new TreeSet<>(FACE)));
        privateNames.retainAll(publicNames);
        DUE.isTrue("no private method bears a public name: " + privateNames, privateNames.isEmpty());
    }

    private static String written(Method method) {
        StringBuilder text = new StringBuilder();
        text.append(method.getReturnType().getSimpleName()).append(' ').append(method.getName()).append('(');
        String comma = "";
        for (Class<?> type : method.getParameterTypes()) {
            text.append(comma).append(type.getSimpleName());
            comma = ",";
        }
        text.append(')');
        for (Class<?> type : method.getExceptionTypes()) {
            text.append(" throws ").append(type.getSimpleName());
        }
        return text.toString();
    }

    private static void theClassesInside() {
        for (Class<?> inside : GearBrake.class.getDeclaredClasses()) {
            int modifiers = inside.getModifiers();
            DUE.isTrue(inside + " is static", Modifier.isStatic(modifiers));
            DUE.isTrue(inside + " is not seen outside", !Modifier.isPublic(modifiers) && !Modifier.isProtected(modifiers));
        }
    }

    private static void theText() throws IOException {
        String source = System.getProperty("source");
        DUE.isTrue("the property source is set", source != null);
        String text = withoutComments(Files.readString(Path.of(source)));
        for (String word : EXCLUDED) {
            DUE.isTrue("no " + word, !text.contains(word));
        }
    }

    private static String withoutComments(String text) {
        return text.replaceAll("(?s)/\\*.*?\\*/", "").replaceAll("//[^\\n]*", "");
    }
}
