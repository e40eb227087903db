import java.lang.reflect.Method;
import java.lang.reflect.Modifier;
import java.util.Arrays;
import java.util.List;
import java.util.NoSuchElementException;
import java.util.function.Consumer;
import java.util.function.Supplier;

/** Promises 61 to 65: undo, saved states, output. */
public final class UndoAndOutputTest {
    private static final Due DUE = new Due("UndoAndOutputTest");

    public static void main(String[] args) {
        DUE.everyTestOf(UndoAndOutputTest.class);
    }

    private static void undone(String name, Consumer<ClothesLine> change) {
        ClothesLine line = Scenes.quiet();
        change.accept(line);
        DUE.is(name + " is a change", line.undoCount(), 3);
        DUE.is(name + " undone", line.undo(), 2);
        DUE.same(name + " undone", Whole.state(Scenes::quiet, change.andThen(ClothesLine::undo)),
                Whole.state(Scenes::quiet, Whole.NO_CALL));
    }

    // ---- undo

    /** "Undoes the latest change"; "a call of a method in the section "changes" that throws no exception" */
    static void p61EachChangeIsUndone() {
        undone("addGarment", line -> line.addGarment(1, 2, 3, 3));
        undone("hang", line -> line.hang(2, 9, 2, 2));
        undone("takeDown", line -> line.takeDown(1));
        undone("pickUp", line -> line.pickUp(0));
        undone("wash", line -> line.wash(3));
        undone("shift", line -> line.shift(1, 5));
        undone("addShower", line -> line.addShower(11, 30, 4));
        undone("addSmoke", line -> line.addSmoke(0, 500));
        undone("setWind", line -> line.setWind(0, 5));
        undone("passMinutes", line -> line.passMinutes(200));
        undone("runScript", line -> Due.run(line, "pick 0;wash 0;minutes 9;wind 1 0;shower 20 9 9;take 1;garment 1 1 1 1;"));
    }

    /** "even if it alters nothing" */
    static void p61AChangeThatAltersNothing() {
        undone("wash of the wet", line -> line.wash(2));
        undone("shift to the same spot", line -> line.shift(1, 4));
        undone("setWind to the same wind", line -> line.setWind(0, 1));
        undone("a script without commands", line -> Due.run(line, ""));
        undone("a script that alters nothing", line -> Due.run(line, "wind 0 1;"));
    }

    /** A question is no change, and leaves all as it was: every call of the face but those that are told to do something. */
    static void p61AQuestionIsNoChange() {
        List<String> doing = List.of("feed", "loadSetup", "runScript", "addGarment", "hang", "takeDown", "pickUp", "wash",
                "shift", "addShower", "addSmoke", "setWind", "passMinutes", "undo", "save", "restore", "writeLine");
        int questions = 0;
        for (Method method : ClothesLine.class.getDeclaredMethods()) {
            if (Modifier.isPublic(method.getModifiers()) && !doing.contains(method.getName())) {
                questions++;
                for (int argument = 0; argument <= 3; argument++) {
                    int asked = argument;
                    DUE.changesNothing(method.getName() + " " + asked, Scenes::busy, line -> ask(line, method, asked));
                }
            }
        }
        DUE.is("questions", questions, 47);
    }

    private static void ask(ClothesLine line, Method question, int argument) {
        Object[] arguments = new Object[question.getParameterCount()];
        Arrays.fill(arguments, argument);
        try {
            question.invoke(line, arguments);
        } catch (ReflectiveOperationException e) {
            // A garment or a state of this number that there is not: it is refused, and that changes nothing too.
        }
    }

    static void p61AFallIsUndone() {
        Supplier<ClothesLine> scene = () -> Due.lineOf("line 9 9 0;wind 3;garment 2 9 900 80;hang 0 0 1 0;shower 5 4 20;"
                + "smoke 0 99;");
        DUE.is("it falls", scene.get().passMinutes(20), 1);
        DUE.same("undone", Whole.of(scene, line -> {
            line.passMinutes(20);
            line.undo();
        }), Whole.of(scene, Whole.NO_CALL));
    }

    /** "Returns the number of changes that can still be undone." */
    static void p61AnswersHowManyCanStillBeUndone() {
        ClothesLine line = new ClothesLine();
        line.passMinutes(1);
        line.passMinutes(1);
        DUE.is("one more", line.undo(), 1);
        DUE.is("none", line.undo(), 0);
    }

    /** "Throws IllegalStateException if there is no change to undo" */
    static void p61NoChangeToUndo() {
        DUE.refused("new", Due.NO_STATE, ClothesLine::new, ClothesLine::undo);
        DUE.refused("all undone", Due.NO_STATE, UndoAndOutputTest::changedAndUndone, ClothesLine::undo);
        DUE.refused("restored", Due.NO_STATE, UndoAndOutputTest::changedAndRestored, ClothesLine::undo);
    }

    private static ClothesLine changedAndUndone() {
        ClothesLine line = new ClothesLine();
        line.passMinutes(1);
        line.undo();
        return line;
    }

    private static ClothesLine changedAndRestored() {
        ClothesLine line = new ClothesLine();
        line.save(1);
        line.passMinutes(1);
        line.restore(1);
        return line;
    }

    private static ClothesLine changed(int changes) {
        ClothesLine line = new ClothesLine();
        for (int i = 0; i < changes; i++) {
            line.passMinutes(1);
        }
        return line;
    }

    /** "The latest 8 changes can be undone, the latest one first." */
    static void p61EightChangesCanBeUndone() {
        ClothesLine line = changed(8);
        for (int left = 7; left >= 0; left--) {
            DUE.is("undo", line.undo(), left);
            DUE.is("minute", line.minute(), 25 + left);
        }
        DUE.throwsIt("the ninth", Due.NO_STATE, line::undo);
        DUE.is("minute stays", line.minute(), 25);
    }

    /** The oldest of nine falls out, and so on. */
    static void p61TheOldestFallsOut() {
        for (int changes = 9; changes <= 26; changes++) {
            ClothesLine line = changed(changes);
            for (int left = 7; left >= 0; left--) {
                DUE.is("undo", line.undo(), left);
                DUE.is("minute", line.minute(), 25 + changes - 8 + left);
            }
            DUE.throwsIt("the ninth of " + changes, Due.NO_STATE, line::undo);
            DUE.is("minute stays", line.minute(), 25 + changes - 8);
        }
    }

    /** "the latest change that was not undone" */
    static void p61TheLatestChangeThatWasNotUndone() {
        ClothesLine line = new ClothesLine();
        line.passMinutes(10);
        line.passMinutes(20);
        DUE.is("undo", line.undo(), 1);
        line.passMinutes(100);
        DUE.is("undo of the later one", line.undo(), 1);
        DUE.is("minute", line.minute(), 35);
        DUE.is("undo of the first one", line.undo(), 0);
        DUE.is("minute", line.minute(), 25);
    }

    static void p61UndoneAndChangedAroundTheEnd() {
        ClothesLine line = changed(11);
        for (int i = 0; i < 5; i++) {
            line.undo();
        }
        DUE.is("minute", line.minute(), 31);
        for (int i = 0; i < 7; i++) {
            line.passMinutes(2);
        }
        DUE.is("undoCount", line.undoCount(), 8);
        for (int left = 7; left > 0; left--) {
            line.undo();
            DUE.is("minute", line.minute(), 31 + 2 * (left - 1));
        }
        line.undo();
        DUE.is("the last minute", line.minute(), 30);
        DUE.throwsIt("no more", Due.NO_STATE, line::undo);
    }

    /** "A method that throws an exception changes nothing.": it is no change to undo */
    static void p61ARefusedCallIsNoChange() {
        ClothesLine line = changed(1);
        DUE.throwsIt("passMinutes", Due.NO_ARGUMENT, () -> line.passMinutes(0));
        DUE.throwsIt("takeDown", Due.NO_STATE, () -> line.takeDown(3));
        DUE.throwsIt("wash", Due.NO_INDEX, () -> line.wash(4));
        Due.run(line, "minutes 1;take 3;");
        Due.load(line, "line 1 1 1;");
        DUE.is("undo", line.undo(), 0);
        DUE.is("minute", line.minute(), 25);
    }

    /** "everything except the two buffers, the reported error, the saved states and the list of changes" */
    static void p61BuffersErrorAndSavedStatesStay() {
        ClothesLine line = changed(2);
        line.save(1);
        line.passMinutes(1);
        line.writeLine();
        Due.run(line, "x");
        Due.feed(line, "minutes 3;");
        line.undo();
        line.undo();
        DUE.is("output", line.outputByte(2), '0');
        DUE.is("error", line.errorCode() * 10 + line.errorPosition(), 10);
        DUE.is("input", line.feed(0, 0, 0, 0, 0), 10);
        DUE.is("input is read", line.runScript(), 1);
        DUE.is("minute", line.minute(), 29);
        DUE.is("saved state", line.restore(1), 27);
    }

    static void p61SavingStaysWhenTheChangeBeforeItIsUndone() {
        ClothesLine line = changed(1);
        line.save(0);
        line.undo();
        DUE.is("restore", line.restore(0), 26);
    }

    // ---- save

    /** "Returns the number of the present minute." */
    static void p62AnswersThePresentMinute() {
        ClothesLine line = new ClothesLine();
        DUE.is("25", line.save(0), 25);
        line.passMinutes(5);
        DUE.is("30", line.save(0), 30);
        DUE.is("0", Scenes.empty().save(1), 0);
    }

    /** "slot: 0 or 1" */
    static void p62Slots0And1() {
        DUE.is("0", Scenes.busy().save(0), 13);
        DUE.is("1", Scenes.busy().save(1), 13);
        for (int slot : new int[] {-1, 2, Integer.MIN_VALUE, Integer.MAX_VALUE}) {
            DUE.refused("save " + slot, Due.NO_ARGUMENT, Scenes::busy, line -> line.save(slot));
        }
    }

    /** "A state that was saved there before is replaced." */
    static void p62AnOlderStateIsReplaced() {
        ClothesLine line = new ClothesLine();
        line.save(0);
        line.save(1);
        line.passMinutes(50);
        line.save(0);
        line.passMinutes(1);
        DUE.is("the newer one", line.restore(0), 75);
        DUE.is("the other slot", line.restore(1), 25);
    }

    /** "This is not a change." */
    static void p62IsNotAChange() {
        ClothesLine line = changed(3);
        line.save(0);
        DUE.is("undoCount", line.undoCount(), 3);
        DUE.is("undo", line.undo(), 2);
        DUE.is("minute", line.minute(), 27);
        ClothesLine first = new ClothesLine();
        first.save(0);
        DUE.throwsIt("nothing to undo", Due.NO_STATE, first::undo);
    }

    static void p62NothingElseChanges() {
        DUE.changesNothing("saved twice and once", () -> {
            ClothesLine line = Scenes.busy();
            line.save(0);
            return line;
        }, line -> line.save(0));
    }

    static void p62LaterChangesAreNotInIt() {
        DUE.same("saved, changed, restored", Whole.state(Scenes::empty, line -> {
            Due.load(line, "line 9 9 6;wind 1 2;garment 1 5 990 0;garment 2 5 50 20;hang 0 0 1 0;");
            line.save(0);
            Due.run(line, "wind 0 5;wind 1 5;shower 0 9 20;smoke 0 90;minutes 20;wash 1;hang 1 7 1 1;garment 1 1 1 1;");
            line.restore(0);
        }), Whole.state(Scenes::empty, line -> {
            Due.load(line, "line 9 9 6;wind 1 2;garment 1 5 990 0;garment 2 5 50 20;hang 0 0 1 0;");
            line.save(0);
        }));
    }

    // ---- restore

    /** "Returns the number of the present minute afterwards." */
    static void p63AnswersTheMinuteAfterwards() {
        ClothesLine line = new ClothesLine();
        line.save(0);
        line.passMinutes(1);
        line.save(1);
        line.passMinutes(1);
        DUE.is("slot 0", line.restore(0), 25);
        DUE.is("minute", line.minute(), 25);
        DUE.is("slot 1", line.restore(1), 26);
        DUE.is("minute", line.minute(), 26);
    }

    /** "Restores the state that was saved in a slot" */
    static void p63TheSavedStateIsBack() {
        Supplier<ClothesLine> scene = () -> Due.lineOf("line 9 9 6;wind 1 2;garment 1 5 990 0;garment 2 5 50 20;hang 0 0 1 0;"
                + "hang 1 4 1 1;shower 0 10 20;smoke 5 30;minutes 10;");
        DUE.same("restored", Whole.of(scene, line -> {
            line.save(0);
            line.pickUp(0);
            line.wash(0);
            line.takeDown(1);
            line.addGarment(1, 1, 1, 1);
            line.addShower(11, 9, 9);
            line.addSmoke(11, 99);
            line.setWind(0, 5);
            line.passMinutes(99);
            line.restore(0);
        }), Whole.of(scene, line -> line.save(0)));
    }

    /** "it stays saved" */
    static void p63ItStaysSaved() {
        ClothesLine line = new ClothesLine();
        line.save(0);
        for (int i = 0; i < 3; i++) {
            line.passMinutes(3);
            DUE.is("restore", line.restore(0), 25);
        }
        line.passMinutes(3);
        line.undo();
        DUE.is("restore after undo", line.restore(0), 25);
    }

    /** "Afterwards there is no change to undo." */
    static void p63NoChangeToUndo() {
        ClothesLine line = changed(9);
        line.save(0);
        line.restore(0);
        DUE.is("undoCount", line.undoCount(), 0);
        DUE.throwsIt("undo", Due.NO_STATE, line::undo);
        line.passMinutes(7);
        DUE.is("a change after it", line.undoCount(), 1);
        DUE.is("undone", line.undo(), 0);
        DUE.is("minute", line.minute(), 34);
        DUE.throwsIt("no more", Due.NO_STATE, line::undo);
    }

    /** "slot: 0 or 1" */
    static void p63Slots0And1() {
        DUE.is("0", Scenes.full().restore(0), 1);
        DUE.is("1", Scenes.full().restore(1), 9);
        for (int slot : new int[] {-1, 2, Integer.MIN_VALUE, Integer.MAX_VALUE}) {
            DUE.refused("full: restore " + slot, Due.NO_ARGUMENT, Scenes::full, line -> line.restore(slot));
            DUE.refused("new: restore " + slot, Due.NO_ARGUMENT, ClothesLine::new, line -> line.restore(slot));
        }
    }

    /** "Throws NoSuchElementException if no state is saved there" */
    static void p63NoStateIsSavedThere() {
        DUE.refused("new 0", NoSuchElementException.class, ClothesLine::new, line -> line.restore(0));
        DUE.refused("new 1", NoSuchElementException.class, ClothesLine::new, line -> line.restore(1));
        DUE.refused("in the other slot", NoSuchElementException.class, Scenes::busy, line -> line.restore(0));
        ClothesLine line = new ClothesLine();
        line.save(0);
        DUE.throwsIt("in the other slot", NoSuchElementException.class, () -> line.restore(1));
    }

    /** "everything except the two buffers, the reported error, the saved states" */
    static void p63BuffersErrorAndSavedStatesStay() {
        ClothesLine line = new ClothesLine();
        line.save(0);
        line.passMinutes(2);
        line.save(1);
        line.writeLine();
        Due.run(line, "x");
        Due.feed(line, "minutes 3;");
        line.restore(0);
        DUE.is("output", line.outputByte(2), '0');
        DUE.is("error", line.errorCode() * 10 + line.errorPosition(), 10);
        DUE.is("input", line.runScript(), 1);
        DUE.is("minute", line.minute(), 28);
        DUE.is("the other slot", line.restore(1), 27);
    }

    // ---- writeLine

    private static String written(ClothesLine line) {
        StringBuilder text = new StringBuilder();
        int length = line.writeLine();
        for (int i = 0; i < length; i++) {
            text.append((char) line.outputByte(i));
        }
        return text.toString();
    }

    /** "Returns the length of the output buffer, which is 24." */
    static void p64AnswersTheLength24() {
        ClothesLine line = new ClothesLine();
        DUE.is("once", line.writeLine(), 24);
        DUE.is("twice", line.writeLine(), 24);
    }

    /** "the digit of the garment that occupies it ... otherwise an asterisk ... otherwise a hyphen" */
    static void p64DigitsAsterisksAndHyphens() {
        DUE.same("new", written(new ClothesLine()), "--000-**1***22222*******");
        ClothesLine line = new ClothesLine();
        line.hang(3, 22, 1, 0);
        line.takeDown(0);
        DUE.same("taken and hung", written(line), "------**1***22222*****33");
    }

    /** "(byte 48 for the garment 0)": up to 57 for the garment 9 */
    static void p64TheDigitsOfTenGarments() {
        DUE.same("ten", written(Scenes.hung(2)), "00112233445566778899****");
        DUE.same("no free spot", written(Scenes.hung(6)), "000000111111222222333333");
    }

    /** "if the spot is sunny in the present minute" */
    static void p64SunnyInThePresentMinute() {
        ClothesLine line = Due.lineOf("line 0 0 6;wind 0;minutes 29;");
        DUE.same("29", written(line), "------******************");
        line.passMinutes(1);
        DUE.same("30", written(line), "*------*****************");
        Due.run(line, "minutes 200;minutes 200;minutes 200;minutes 59;");
        DUE.same("689: the shadow begins at 22", written(line), "----******************--");
        line.passMinutes(1);
        DUE.same("690: at 23", written(line), "-----******************-");
        line.passMinutes(30);
        DUE.same("720: at 0", written(line), "------******************");
    }

    static void p64NoSpotOrEachSpotIsSunny() {
        DUE.same("no shadow", written(Due.lineOf("line 0 0 0;wind 0;")), "*".repeat(24));
        DUE.same("shadow 24", written(Due.lineOf("line 0 0 24;wind 0;")), "-".repeat(24));
    }

    static void p64InTheRainNoSpotIsSunny() {
        ClothesLine line = Due.lineOf("line 9 9 6;wind 0;garment 3 1 9 0;hang 0 7 1 0;shower 1 2 1;");
        DUE.same("before", written(line), "------*000**************");
        line.passMinutes(1);
        DUE.same("first", written(line), "-------000--------------");
        line.passMinutes(1);
        DUE.same("last", written(line), "-------000--------------");
        line.passMinutes(1);
        DUE.same("after", written(line), "------*000**************");
    }

    /** "and replaces its content" */
    static void p64ReplacesTheContent() {
        ClothesLine line = new ClothesLine();
        line.writeLine();
        line.takeDown(2);
        DUE.is("not before it is written again", line.outputByte(12), '2');
        line.writeLine();
        DUE.is("written again", line.outputByte(12), '*');
        line.undo();
        DUE.is("and not by undo", line.outputByte(12), '*');
    }

    static void p64IsNoChange() {
        DUE.same("writeLine", Whole.state(Scenes::busy, ClothesLine::writeLine), Whole.state(Scenes::busy, Whole.NO_CALL));
        DUE.changesNothing("written again", Scenes::quiet, ClothesLine::writeLine);
    }

    // ---- outputByte

    /** "The two buffers are empty." */
    static void p65NoneIfNothingIsWritten() {
        ClothesLine line = new ClothesLine();
        for (int index : new int[] {-1, 0, 23, 24, Integer.MIN_VALUE, Integer.MAX_VALUE}) {
            DUE.is("outputByte " + index, line.outputByte(index), -1);
        }
    }

    /** "Returns the byte" */
    static void p65From0To23() {
        ClothesLine line = new ClothesLine();
        line.writeLine();
        DUE.is("the first", line.outputByte(0), 45);
        DUE.is("the third", line.outputByte(2), 48);
        DUE.is("the last", line.outputByte(23), 42);
    }

    /** "NONE if index is negative or not less than the length" */
    static void p65NoneOutsideTheLength() {
        ClothesLine line = new ClothesLine();
        line.writeLine();
        for (int index : new int[] {-1, 24, 25, 700, Integer.MIN_VALUE, Integer.MAX_VALUE}) {
            DUE.is("outputByte " + index, line.outputByte(index), -1);
        }
    }
}
