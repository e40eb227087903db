import java.util.NoSuchElementException;
import java.util.function.Consumer;
import java.util.function.Supplier;

/**
 * All that calls leave behind, as a text. Each look is at a new object, on which the scene and the calls are played
 * again: so undo(), restore() and runScript() can be tried, and no object is used for more than its 512 calls.
 */
final class Whole {
    static final Consumer<ClothesLine> NO_CALL = line -> { };

    private static final int[] MINUTES = {0, 1, 5, 9, 10, 11, 13, 20, 25, 26, 30, 31, 40, 50, 60, 70, 71, 100, 119, 120, 200,
        400, 9999, 10198};

    static String of(Supplier<ClothesLine> scene, Consumer<ClothesLine> calls) {
        return state(scene, calls) + buffers(scene, calls);
    }

    /** What undo() and restore() bring back, now and after each of them. */
    static String state(Supplier<ClothesLine> scene, Consumer<ClothesLine> calls) {
        StringBuilder all = new StringBuilder();
        int changes = after(scene, calls).undoCount();
        for (int undone = 0; undone <= changes; undone++) {
            ClothesLine line = after(scene, calls);
            for (int i = 0; i < undone; i++) {
                line.undo();
            }
            all.append(undone).append(" undone: ").append(look(line));
        }
        for (int slot = 0; slot < 2; slot++) {
            all.append("slot ").append(slot).append(": ").append(restored(after(scene, calls), slot));
        }
        return all.toString();
    }

    /** The two buffers, and the reported error. */
    static String buffers(Supplier<ClothesLine> scene, Consumer<ClothesLine> calls) {
        StringBuilder all = new StringBuilder();
        ClothesLine line = after(scene, calls);
        all.append("error ").append(line.errorCode()).append(" at ").append(line.errorPosition());
        all.append("\noutput");
        for (int i = 0; i < 25; i++) {
            all.append(' ').append(line.outputByte(i));
        }
        all.append("\ninput of ").append(line.feed(0, 0, 0, 0, 0));
        all.append(" runs ").append(line.runScript()).append(" error ").append(line.errorCode()).append(" at ");
        return all.append(line.errorPosition()).append(' ').append(look(line)).toString();
    }

    private static ClothesLine after(Supplier<ClothesLine> scene, Consumer<ClothesLine> calls) {
        ClothesLine line = scene.get();
        calls.accept(line);
        return line;
    }

    private static String restored(ClothesLine line, int slot) {
        try {
            line.restore(slot);
        } catch (NoSuchElementException e) {
            return "nothing\n";
        }
        return look(line);
    }

    private static String look(ClothesLine line) {
        StringBuilder text = new StringBuilder();
        append(text, "minute, shadow, changes", line.minute(), line.shadowWidth(), line.undoCount());
        append(text, "pegs in the bag", line.woodenLeft(), line.steelLeft());
        append(text, "spots", line.freeSpots(), line.longestGap());
        append(text, "accounts", line.waterInAll(), line.waterCame(), line.driedBySun(), line.driedByWind(),
                line.consistencyError());
        for (int garment = 0; garment < line.garmentCount(); garment++) {
            append(text, "garment " + garment, line.stateOf(garment), line.widthOf(garment), line.dryWeight(garment),
                    line.capacityOf(garment), line.waterOf(garment), line.smellOf(garment), line.spotOf(garment),
                    line.woodenOf(garment), line.steelOf(garment), line.fallsOf(garment), line.isDirty(garment) ? 1 : 0);
        }
        for (int minute = 0; minute <= 540; minute += 60) {
            append(text, "wind in " + minute, line.windIn(minute));
        }
        append(text, "minutes to rain", line.minutesToRain());
        for (int minute : MINUTES) {
            append(text, "rain and smoke in " + minute, line.rainIn(minute), line.smokySpots(minute));
        }
        return text.toString();
    }

    private static void append(StringBuilder text, String what, int... numbers) {
        text.append(what).append(':');
        for (int number : numbers) {
            text.append(' ').append(number);
        }
        text.append('\n');
    }
}
