import java.lang.reflect.InvocationTargetException;
import java.lang.reflect.Method;
import java.util.ArrayList;
import java.util.Arrays;
import java.util.Comparator;
import java.util.List;
import java.util.Random;

/**
 * Runs of up to 512 calls, drawn with fixed seeds, on the program and on the model of the document: each answer and each
 * exception of the program must be the model's. The arguments are mostly fair, sometimes at the edges, rarely wild.
 * Arguments of main: the first seed and the number of runs.
 */
public final class ModelTest {
    private static final int MOST_CALLS = 512;
    private static final int MOST_CALLS_OF_A_TEXT = 40;
    private static final Due DUE = new Due("ModelTest");
    private static final String[] WORDS = {"garment", "hang", "take", "pick", "wash", "shift", "shower", "smoke", "wind",
        "minutes"};
    private static final List<Method> FACE = new ArrayList<>();

    private final Random random;
    private final ClothesLine line = new ClothesLine();
    private final Model model = new Model();
    private final StringBuilder story = new StringBuilder();
    private int calls;
    private boolean same = true;

    private ModelTest(long seed) {
        random = new Random(seed);
    }

    public static void main(String[] args) throws Exception {
        long first = args.length > 0 ? Long.parseLong(args[0]) : 1;
        int runs = args.length > 1 ? Integer.parseInt(args[1]) : 400;
        for (Method method : ClothesLine.class.getDeclaredMethods()) {
            if (java.lang.reflect.Modifier.isPublic(method.getModifiers())) {
                FACE.add(method);
            }
        }
        FACE.sort(Comparator.comparing(Method::getName));
        for (long seed = first; seed < first + runs; seed++) {
            new ModelTest(seed).run(seed);
        }
        DUE.end();
    }

    private void run(long seed) throws Exception {
        if (random.nextInt(3) > 0) {
            text(true);
        }
        while (calls < MOST_CALLS && same) {
            int kind = random.nextInt(100);
            if (kind < 4 && calls + MOST_CALLS_OF_A_TEXT <= MOST_CALLS) {
                text(random.nextInt(4) == 0);
            } else if (kind < 40) {
                call(method(changing()));
            } else {
                call(FACE.get(random.nextInt(FACE.size())));
            }
        }
        if (!same) {
            DUE.miss("seed " + seed + ": " + story);
        }
    }

    private String changing() {
        String[] names = {"addGarment", "hang", "hang", "hang", "takeDown", "pickUp", "pickUp", "wash", "shift", "addShower",
            "addSmoke", "setWind", "passMinutes", "passMinutes", "passMinutes", "undo", "save", "restore"};
        return names[random.nextInt(names.length)];
    }

    private static Method method(String name) {
        for (Method method : FACE) {
            if (method.getName().equals(name)) {
                return method;
            }
        }
        throw new IllegalArgumentException(name);
    }

    private void call(Method method) throws Exception {
        Object[] arguments = new Object[method.getParameterCount()];
        for (int i = 0; i < arguments.length; i++) {
            arguments[i] = argument(method.getName(), i);
        }
        if (method.getName().equals("feed")) {
            arguments = new Object[] {random.nextInt(), 0, random.nextInt(9), random.nextInt(300) << 24, random.nextInt()};
        }
        call(method, arguments);
    }

    private void call(Method method, Object... arguments) throws Exception {
        if (!same) {
            return;
        }
        String got = answer(method, line, arguments);
        String want = answer(Model.class.getMethod(method.getName(), method.getParameterTypes()), model, arguments);
        calls++;
        story.append('\n').append(method.getName()).append(Arrays.toString(arguments)).append(" -> ").append(got);
        DUE.is(method.getName(), 0, 0);
        if (!got.equals(want)) {
            story.append(", due is ").append(want);
            same = false;
        }
    }

    private static String answer(Method method, Object object, Object[] arguments) throws Exception {
        try {
            return String.valueOf(method.invoke(object, arguments));
        } catch (InvocationTargetException e) {
            return e.getCause().getClass().getName();
        }
    }

    private int between(int low, int high) {
        return low + random.nextInt(high - low + 1);
    }

    private int argument(String name, int index) {
        int wild = random.nextInt(60);
        int[] strange = {-1, 24, 10, 5, Integer.MIN_VALUE, Integer.MAX_VALUE, 9999, 10000, 99999, 100000, 201, 501};
        return wild == 0 ? strange[random.nextInt(strange.length)] : fair(name, index);
    }

    private int fair(String name, int index) {
        // The model is asked, as the line has no more than its 512 calls.
        int garment = between(wide(), Math.max(model.garmentCount() - 1, 0));
        int soon = model.minute() < 9900 ? model.minute() + between(0, 120) : between(0, 9999);
        switch (name) {
            case "addGarment":
                return new int[] {between(1, 4), between(1, 40), between(1, 500), between(0, 60)}[index];
            case "hang": case "hangObstacle":
                return new int[] {garment, between(0, 23), between(0, 3), between(0, 2)}[index];
            case "shift":
                return index == 0 ? garment : between(0, 23);
            case "addShower":
                return new int[] {soon, between(1, 60), between(1, 20)}[index];
            case "addSmoke":
                return index == 0 ? soon : soon + between(0, 99);
            case "setWind":
                return index == 0 ? between(0, 4) : between(0, 5);
            case "windIn": case "rainIn": case "sunnySpots": case "smokySpots":
                return random.nextBoolean() ? soon : between(0, 2000);
            case "garmentAt": case "outputByte":
                return between(0, 23);
            case "garmentByPlace":
                return between(0, 5);
            case "garmentsIn":
                return between(0, 2);
            case "passMinutes":
                return random.nextInt(4) == 0 ? between(1, 200) : between(1, 30);
            case "save": case "restore":
                return between(0, 1);
            case "waterAfter":
                return index == 0 ? garment : random.nextBoolean() ? between(0, 40) : between(0, 500);
            default:
                return garment;
        }
    }

    private int wide() {
        return random.nextInt(30) == 0 ? -1 : 0;
    }

    private void text(boolean setup) throws Exception {
        StringBuilder text = new StringBuilder();
        if (setup) {
            text.append("line ").append(between(0, 30)).append(' ').append(between(0, 9)).append(' ');
            text.append(between(0, 24)).append(";wind");
            int winds = random.nextInt(8) == 0 ? between(8, 9) : between(1, 5);
            for (int i = 0; i < winds; i++) {
                text.append(' ').append(between(0, 5));
            }
            text.append(';');
        }
        int most = random.nextInt(5) == 0 ? 45 : between(0, 12);
        int garments = setup ? 0 : model.garmentCount();
        for (int i = 0; i < most && text.length() < 640; i++) {
            boolean short1 = most == 45;
            String word = short1 ? "wind" : setup && i < 4 ? "garment" : WORDS[random.nextInt(WORDS.length)];
            garments += word.equals("garment") ? 1 : 0;
            command(text, word, Math.max(garments - 1, 0));
        }
        if (random.nextInt(3) == 0) {
            spoil(text);
        }
        send(text.toString());
        call(method(setup ? "loadSetup" : "runScript"));
        call(method("errorCode"));
        call(method("errorPosition"));
    }

    private void command(StringBuilder text, String word, int lastGarment) {
        int garment = random.nextInt(25) == 0 ? lastGarment + 1 : between(0, lastGarment);
        int soon = between(0, 300);
        int[] numbers;
        switch (word) {
            case "garment": numbers = new int[] {between(1, 4), between(1, 30), between(60, 400), between(0, 60)}; break;
            case "hang": numbers = new int[] {garment, between(0, 23), between(0, 2), between(1, 2)}; break;
            case "shift": numbers = new int[] {garment, between(0, 23)}; break;
            case "shower": numbers = new int[] {soon, between(1, 60), between(1, 20)}; break;
            case "smoke": numbers = new int[] {soon, soon + between(0, 50)}; break;
            case "wind": numbers = new int[] {0, between(0, 5)}; break;
            case "minutes": numbers = new int[] {between(1, 60)}; break;
            default: numbers = new int[] {garment};
        }
        text.append(word);
        for (int number : numbers) {
            text.append(random.nextInt(9) == 0 ? "\n " : " ").append(random.nextInt(20) == 0 ? "000" : "").append(number);
        }
        text.append(random.nextInt(9) == 0 ? " ;\n" : ";");
    }

    private void spoil(StringBuilder text) {
        int times = between(1, 2);
        for (int i = 0; i < times && text.length() > 0; i++) {
            int place = random.nextInt(text.length());
            String with = "0123456789;; \nabgmwz-\u00ff";
            switch (random.nextInt(4)) {
                case 0: text.deleteCharAt(place); break;
                case 1: text.setCharAt(place, with.charAt(random.nextInt(with.length()))); break;
                case 2: text.insert(place, with.charAt(random.nextInt(with.length()))); break;
                default: text.setLength(place);
            }
        }
    }

    private void send(String text) throws Exception {
        Method feed = method("feed");
        for (int i = 0; i < text.length(); i += 20) {
            call(feed, Due.word(text, i), Due.word(text, i + 4), Due.word(text, i + 8), Due.word(text, i + 12),
                    Due.word(text, i + 16));
        }
    }
}
