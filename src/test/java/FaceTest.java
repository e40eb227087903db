import java.io.IOException;
import java.lang.reflect.Field;
import java.lang.reflect.Method;
import java.lang.reflect.Modifier;
import java.nio.file.Files;
import java.nio.file.Path;
import java.util.Arrays;
import java.util.List;
import java.util.Set;
import java.util.TreeSet;
import java.util.regex.Pattern;

/** The public face of the document, and what can be seen of the rules of the language from outside. */
public final class FaceTest {
    private static final List<String> FACE = List.of(
        "int addGarment(int, int, int, int) throws IllegalArgumentException, IllegalStateException",
        "int addShower(int, int, int) throws IllegalArgumentException, IllegalStateException",
        "int addSmoke(int, int) throws IllegalArgumentException, IllegalStateException",
        "int bestSpot(int) throws IndexOutOfBoundsException",
        "int capacityOf(int) throws IndexOutOfBoundsException",
        "int consistencyError()",
        "int driedBySun()",
        "int driedByWind()",
        "int dryGarments()",
        "float dryShare()",
        "int dryWeight(int) throws IndexOutOfBoundsException",
        "int errorCode()",
        "int errorPosition()",
        "int fallsOf(int) throws IndexOutOfBoundsException",
        "int feed(int, int, int, int, int)",
        "int fewestPegs(int) throws IndexOutOfBoundsException",
        "int freeSpots()",
        "int garmentAt(int) throws IllegalArgumentException",
        "int garmentByPlace(int)",
        "int garmentCount()",
        "int garmentsAtRisk()",
        "int garmentsIn(int) throws IllegalArgumentException",
        "int hang(int, int, int, int) throws IndexOutOfBoundsException, IllegalArgumentException, IllegalStateException",
        "int hangObstacle(int, int, int, int) throws IndexOutOfBoundsException, IllegalArgumentException",
        "int holdOf(int) throws IndexOutOfBoundsException",
        "boolean isDirty(int) throws IndexOutOfBoundsException",
        "int loadSetup()",
        "int longestGap()",
        "double meanWater()",
        "int minute()",
        "int minutesToDry(int) throws IndexOutOfBoundsException",
        "int minutesToFall(int) throws IndexOutOfBoundsException",
        "int minutesToRain()",
        "int outputByte(int)",
        "int passMinutes(int) throws IllegalArgumentException",
        "int pickUp(int) throws IndexOutOfBoundsException, IllegalStateException",
        "int rainIn(int) throws IllegalArgumentException",
        "int restore(int) throws IllegalArgumentException, NoSuchElementException",
        "int runScript()",
        "int save(int) throws IllegalArgumentException",
        "int setWind(int, int) throws IndexOutOfBoundsException, IllegalArgumentException",
        "int shadowWidth()",
        "int shift(int, int) throws IndexOutOfBoundsException, IllegalArgumentException, IllegalStateException",
        "int smellOf(int) throws IndexOutOfBoundsException",
        "int smokySpots(int) throws IllegalArgumentException",
        "int spotOf(int) throws IndexOutOfBoundsException",
        "int stateOf(int) throws IndexOutOfBoundsException",
        "int steelLeft()",
        "int steelOf(int) throws IndexOutOfBoundsException",
        "int sunnySpots(int) throws IllegalArgumentException",
        "int takeDown(int) throws IndexOutOfBoundsException, IllegalStateException",
        "int undo() throws IllegalStateException",
        "int undoCount()",
        "int wash(int) throws IndexOutOfBoundsException, IllegalStateException",
        "int waterAfter(int, int) throws IndexOutOfBoundsException, IllegalArgumentException",
        "int waterCame()",
        "int waterInAll()",
        "int waterOf(int) throws IndexOutOfBoundsException",
        "int weightOf(int) throws IndexOutOfBoundsException",
        "int widthOf(int) throws IndexOutOfBoundsException",
        "int windIn(int) throws IllegalArgumentException",
        "int woodenLeft()",
        "int woodenOf(int) throws IndexOutOfBoundsException",
        "int writeLine()");
    private static final Due DUE = new Due("FaceTest");

    public static void main(String[] args) throws IOException {
        constants();
        methods();
        classes();
        source();
        DUE.end();
    }

    private static void constants() {
        DUE.is("NONE", ClothesLine.NONE, -1);
        DUE.is("BASKET", ClothesLine.BASKET, 0);
        DUE.is("LINE", ClothesLine.LINE, 1);
        DUE.is("GROUND", ClothesLine.GROUND, 2);
        Set<String> seen = new TreeSet<>();
        for (Field field : ClothesLine.class.getDeclaredFields()) {
            if (!Modifier.isPrivate(field.getModifiers())) {
                seen.add(field.getType() + " " + field.getName() + " " + Modifier.toString(field.getModifiers()));
            }
        }
        DUE.same("constants", seen.toString(), "[int BASKET public static final, int GROUND public static final, "
                + "int LINE public static final, int NONE public static final]");
    }

    private static void methods() {
        Set<String> seen = new TreeSet<>();
        Set<String> names = new TreeSet<>();
        for (Method method : ClothesLine.class.getDeclaredMethods()) {
            if (!Modifier.isPrivate(method.getModifiers())) {
                DUE.same(method.getName(), Modifier.toString(method.getModifiers()), "public");
                seen.add(signature(method));
                names.add(method.getName());
            }
        }
        DUE.same("methods", seen.toString(), new TreeSet<>(FACE).toString());
        DUE.is("constructors", ClothesLine.class.getDeclaredConstructors().length, 1);
        DUE.is("public constructors", ClothesLine.class.getConstructors().length, 1);
        for (Method method : ClothesLine.class.getDeclaredMethods()) {
            DUE.is(method + " bears a public name", names.contains(method.getName()),
                    !Modifier.isPrivate(method.getModifiers()));
        }
    }

    private static String signature(Method method) {
        StringBuilder text = new StringBuilder();
        text.append(method.getReturnType()).append(' ').append(method.getName()).append('(');
        text.append(list(method.getParameterTypes())).append(')');
        if (method.getExceptionTypes().length > 0) {
            text.append(" throws ").append(list(method.getExceptionTypes()));
        }
        return text.toString();
    }

    private static String list(Class<?>[] types) {
        return String.join(", ", Arrays.stream(types).map(Class::getSimpleName).toList());
    }

    private static void classes() {
        Class<?>[] inside = ClothesLine.class.getDeclaredClasses();
        DUE.is("at most twelve classes", inside.length < 12, true);
        DUE.is("final", Modifier.isFinal(ClothesLine.class.getModifiers()), true);
        ownFields(ClothesLine.class);
        for (Class<?> one : inside) {
            DUE.is(one + " is private and static", one.getModifiers() & (Modifier.PRIVATE | Modifier.STATIC),
                    Modifier.PRIVATE | Modifier.STATIC);
            ownFields(one);
            for (Method method : one.getDeclaredMethods()) {
                DUE.is(method + " has at most seven parameters", method.getParameterCount() <= 7, true);
            }
        }
    }

    private static void ownFields(Class<?> one) {
        int own = 0;
        for (Field field : one.getDeclaredFields()) {
            if (Modifier.isStatic(field.getModifiers())) {
                DUE.is(field + " is final", Modifier.isFinal(field.getModifiers()), true);
                DUE.is(field + " is int or String", field.getType() == int.class || field.getType() == String.class, true);
            } else {
                own++;
            }
        }
        DUE.is(one + " has at most twenty fields", own <= 20, true);
    }

    private static void source() throws IOException {
        String source = Files.readString(Path.of("src/main/java/ClothesLine.java"));
        String[] ruledOut = {"->", "::", "\\bsynchronized\\b", "\\bassert\\b", "\\bfinally\\b", "\\bcatch\\b", "\\btry\\b",
            "static \\{", "\\bpackage\\b", "\" \\+", "\\+ \"", "Exact\\(", "\\.equals\\(", "hashCode", "toString", "System\\.(?!arraycopy)"};
        for (String pattern : ruledOut) {
            DUE.is("the source has " + pattern, Pattern.compile(pattern).matcher(source).find(), false);
        }
        DUE.is("imports", source.split("\nimport ", -1).length + (source.startsWith("import ") ? 1 : 0), 2);
        DUE.is("the one import", source.contains("import java.util.NoSuchElementException;"), true);
    }
}
