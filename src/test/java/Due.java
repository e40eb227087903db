import java.lang.reflect.InvocationTargetException;
import java.lang.reflect.Method;
import java.util.Arrays;
import java.util.Comparator;
import java.util.function.Consumer;
import java.util.function.ObjIntConsumer;
import java.util.function.Supplier;

/** Compares answers with those that are due, prints each that is not, and ends with exit code 1 if there was one. */
final class Due {
    static final Class<IndexOutOfBoundsException> NO_INDEX = IndexOutOfBoundsException.class;
    static final Class<IllegalArgumentException> NO_ARGUMENT = IllegalArgumentException.class;
    static final Class<IllegalStateException> NO_STATE = IllegalStateException.class;

    private final String test;
    private String sentence = "";
    private int asked;
    private int wrong;

    Due(String test) {
        this.test = test;
    }

    /** Runs the tests of a class, a method each, and ends. */
    void everyTestOf(Class<?> tests) {
        Method[] methods = tests.getDeclaredMethods();
        Arrays.sort(methods, Comparator.comparing(Method::getName));
        for (Method method : methods) {
            if (promiseOf(method) > 0) {
                sentence = " " + method.getName();
                runTest(method);
            }
        }
        sentence = "";
        end();
    }

    /** A test's name is p, the two digits of its promise, and what is due; the answer is 0 if it is no test. */
    static int promiseOf(Method method) {
        String name = method.getName();
        return name.matches("p[0-9]{2}[A-Z]\\w*") ? Integer.parseInt(name.substring(1, 3)) : 0;
    }

    private void runTest(Method method) {
        int before = asked;
        try {
            method.invoke(null);
        } catch (InvocationTargetException e) {
            miss("threw " + e.getCause());
        } catch (IllegalAccessException e) {
            miss("is not to be called");
        }
        if (asked == before) {
            miss("asked nothing");
        }
    }

    void is(String call, long got, long want) {
        asked++;
        if (got != want) {
            miss(call + " answered " + got + ", due is " + want);
        }
    }

    void is(String call, boolean got, boolean want) {
        is(call, got ? 1 : 0, want ? 1 : 0);
    }

    void isReal(String call, double got, double want) {
        asked++;
        if (Double.compare(got, want) != 0) {
            miss(call + " answered " + got + ", due is " + want);
        }
    }

    void same(String what, String got, String want) {
        asked++;
        if (!got.equals(want)) {
            String[] gotLines = got.split("\n");
            String[] wantLines = want.split("\n");
            int line = Math.max(Arrays.mismatch(gotLines, wantLines), 0);
            miss(what + "\n  got  " + (line < gotLines.length ? gotLines[line] : "nothing more")
                    + "\n  want " + (line < wantLines.length ? wantLines[line] : "nothing more"));
        }
    }

    /** The very class is due: a subclass, as the machine throws them, is not. */
    void throwsIt(String call, Class<? extends RuntimeException> want, Runnable made) {
        asked++;
        try {
            made.run();
            miss(call + " threw nothing, due is " + want.getSimpleName());
        } catch (RuntimeException e) {
            if (e.getClass() != want) {
                miss(call + " threw " + e + ", due is " + want.getSimpleName());
            }
        }
    }

    /** The call throws, and leaves all as it was: buffers, changes to undo, saved states and the error too. */
    void refused(String call, Class<? extends RuntimeException> want, Supplier<ClothesLine> scene,
            Consumer<ClothesLine> made) {
        throwsIt(call, want, () -> made.accept(scene.get()));
        changesNothing(call, scene, line -> tryOut(line, made));
    }

    private static void tryOut(ClothesLine line, Consumer<ClothesLine> made) {
        try {
            made.accept(line);
        } catch (RuntimeException e) {
            // Whether it is the one that is due, throwsIt() has seen before.
        }
    }

    void changesNothing(String call, Supplier<ClothesLine> scene, Consumer<ClothesLine> made) {
        same(call + " changes nothing", Whole.of(scene, made), Whole.of(scene, Whole.NO_CALL));
    }

    /** Indices just and far outside the garments of lines with none, with four and with ten of them. */
    void refusesOtherGarments(String call, ObjIntConsumer<ClothesLine> made) {
        refusesOtherGarments(call, made, Scenes::empty, -1, 0, 1, Integer.MIN_VALUE, Integer.MAX_VALUE);
        refusesOtherGarments(call, made, Scenes::busy, -1, 4, 5, 9, 10, Integer.MIN_VALUE, Integer.MAX_VALUE);
        refusesOtherGarments(call, made, Scenes::full, -1, 10, 11, Integer.MIN_VALUE, Integer.MAX_VALUE);
    }

    private void refusesOtherGarments(String call, ObjIntConsumer<ClothesLine> made, Supplier<ClothesLine> scene,
            int... garments) {
        for (int garment : garments) {
            refused(call + " of " + garment, NO_INDEX, scene, line -> made.accept(line, garment));
        }
    }

    void miss(String what) {
        wrong++;
        if (wrong <= 50) {
            System.out.println(test + sentence + ": " + what);
        }
    }

    void end() {
        System.out.println(test + ": " + asked + " answers, " + wrong + " not as due");
        if (wrong != 0) {
            System.exit(1);
        }
    }

    /** Appends a text to the input buffer, and returns what the last feed() answered. */
    static int feed(ClothesLine line, String text) {
        int answer = line.feed(0, 0, 0, 0, 0);
        for (int i = 0; i < text.length(); i += 20) {
            answer = line.feed(word(text, i), word(text, i + 4), word(text, i + 8), word(text, i + 12),
                    word(text, i + 16));
        }
        return answer;
    }

    static int word(String text, int from) {
        int word = 0;
        for (int i = from; i < from + 4; i++) {
            word = word << 8 | (i < text.length() ? text.charAt(i) : 0);
        }
        return word;
    }

    static int load(ClothesLine line, String setup) {
        feed(line, setup);
        return line.loadSetup();
    }

    static int run(ClothesLine line, String script) {
        feed(line, script);
        return line.runScript();
    }

    static ClothesLine lineOf(String setup) {
        ClothesLine line = new ClothesLine();
        if (load(line, setup) == ClothesLine.NONE) {
            throw new IllegalArgumentException(line.errorCode() + " at " + line.errorPosition() + " in " + setup);
        }
        return line;
    }
}
