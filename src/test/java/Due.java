import java.util.function.IntConsumer;

/** Compares answers with those that are due, prints each that is not, and ends with exit code 1 if there was one. */
final class Due {
    /** Indices that no garment of a new line has. */
    static final int[] NO_GARMENTS = {-1, 4, 10, Integer.MIN_VALUE, Integer.MAX_VALUE};

    private final String test;
    private int asked;
    private int wrong;

    Due(String test) {
        this.test = test;
    }

    void is(String call, long got, long want) {
        asked++;
        if (got != want) {
            miss(call + " answered " + got + ", due is " + want);
        }
    }

    void is(String call, boolean got, boolean want) {
        is(call, got ? 1 : 0, want ? 1 : 0);
    }

    void isReal(String call, double got, double want) {
        asked++;
        if (Double.compare(got, want) != 0) {
            miss(call + " answered " + got + ", due is " + want);
        }
    }

    /** The very class is due: a subclass, as the machine throws them, is not. */
    void throwsIt(String call, Class<? extends RuntimeException> want, Runnable made) {
        asked++;
        try {
            made.run();
            miss(call + " threw nothing, due is " + want.getSimpleName());
        } catch (RuntimeException e) {
            if (e.getClass() != want) {
                miss(call + " threw " + e + ", due is " + want.getSimpleName());
            }
        }
    }

    void throwsForNoGarment(String call, IntConsumer asked) {
        for (int garment : NO_GARMENTS) {
            throwsIt(call + " " + garment, IndexOutOfBoundsException.class, () -> asked.accept(garment));
        }
    }

    void miss(String what) {
        wrong++;
        if (wrong <= 50) {
            System.out.println(test + ": " + what);
        }
    }

    void end() {
        System.out.println(test + ": " + asked + " answers, " + wrong + " not as due");
        if (wrong != 0) {
            System.exit(1);
        }
    }

    /** Appends a text to the input buffer, and returns what the last feed() answered. */
    static int feed(ClothesLine line, String text) {
        int answer = line.feed(0, 0, 0, 0, 0);
        for (int i = 0; i < text.length(); i += 20) {
            answer = line.feed(word(text, i), word(text, i + 4), word(text, i + 8), word(text, i + 12),
                    word(text, i + 16));
        }
        return answer;
    }

    static int word(String text, int from) {
        int word = 0;
        for (int i = from; i < from + 4; i++) {
            word = word << 8 | (i < text.length() ? text.charAt(i) : 0);
        }
        return word;
    }

    static int load(ClothesLine line, String setup) {
        feed(line, setup);
        return line.loadSetup();
    }

    static int run(ClothesLine line, String script) {
        feed(line, script);
        return line.runScript();
    }

    static ClothesLine lineOf(String setup) {
        ClothesLine line = new ClothesLine();
        if (load(line, setup) == ClothesLine.NONE) {
            throw new IllegalArgumentException(line.errorCode() + " at " + line.errorPosition() + " in " + setup);
        }
        return line;
    }

    /** Everything that a caller can see without changing the line, in one text. */
    static String seen(ClothesLine line) {
        StringBuilder all = new StringBuilder();
        int[] whole = {line.minute(), line.shadowWidth(), line.undoCount(), line.minutesToRain(), line.woodenLeft(),
            line.steelLeft(), line.freeSpots(), line.longestGap(), line.garmentCount(), line.dryGarments(),
            line.waterInAll(), line.waterCame(), line.driedBySun(), line.driedByWind(), line.consistencyError(),
            line.garmentsAtRisk()};
        for (int number : whole) {
            all.append(number).append(' ');
        }
        all.append(line.meanWater()).append(' ').append(line.dryShare());
        for (int m = 0; m < 1500; m += 10) {
            all.append(' ').append(line.windIn(m)).append(',').append(line.rainIn(m)).append(',')
                    .append(line.sunnySpots(m)).append(',').append(line.smokySpots(m));
        }
        for (int g = 0; g < line.garmentCount(); g++) {
            int[] one = {line.stateOf(g), line.widthOf(g), line.dryWeight(g), line.capacityOf(g), line.waterOf(g),
                line.weightOf(g), line.smellOf(g), line.spotOf(g), line.woodenOf(g), line.steelOf(g), line.holdOf(g),
                line.fallsOf(g), line.isDirty(g) ? 1 : 0, line.fewestPegs(g), line.minutesToDry(g),
                line.minutesToFall(g), line.bestSpot(g)};
            all.append("\n ").append(g).append(':');
            for (int number : one) {
                all.append(' ').append(number);
            }
        }
        return all.toString();
    }

    void same(String what, String got, String want) {
        asked++;
        if (!got.equals(want)) {
            miss(what + "\n got  " + got + "\n want " + want);
        }
    }
}
