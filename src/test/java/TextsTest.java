import java.util.NoSuchElementException;
import java.util.function.Consumer;
import java.util.function.Supplier;

/** Promises 1 to 4: the new line, the input buffer, setups and scripts. What is wrong in a text is in ErrorsTest. */
public final class TextsTest {
    private static final String FIRST = "line 8 3 6; wind 1 0 3; garment 3 12 200 180; garment 1 4 60 60; garment 5 40 "
            + "600 500; garment 2 9 90 0; shower 100 20 2; smoke 30 70; hang 0 2 2 0; hang 1 8 1 0; hang 2 12 1 2; "
            + "minutes 25;";
    private static final String HEAD = "line 8 3 6;wind 1 0 3;";
    private static final String TWENTY = " ".repeat(20);
    private static final Due DUE = new Due("TextsTest");

    public static void main(String[] args) {
        DUE.everyTestOf(TextsTest.class);
    }

    /** "Creates the line of this setup text" */
    static void p01TheLineOfTheSetupText() {
        DUE.same("new", Whole.of(ClothesLine::new, Whole.NO_CALL), Whole.of(() -> Due.lineOf(FIRST), Whole.NO_CALL));
        ClothesLine line = new ClothesLine();
        DUE.is("minute", line.minute(), 25);
        DUE.is("shadow", line.shadowWidth(), 6);
        DUE.is("wooden", line.woodenLeft(), 4);
        DUE.is("steel", line.steelLeft(), 1);
        DUE.is("garments", line.garmentCount(), 4);
        DUE.is("water 0", line.waterOf(0), 155);
        DUE.is("water 1", line.waterOf(1), 10);
        DUE.is("water 2", line.waterOf(2), 350);
        DUE.is("water 3", line.waterOf(3), 0);
        DUE.is("spot 2", line.spotOf(2), 12);
        DUE.is("came", line.waterCame(), 740);
    }

    /** "The two buffers are empty" */
    static void p01TheTwoBuffersAreEmpty() {
        ClothesLine line = new ClothesLine();
        DUE.is("input", line.feed(0, 0, 0, 0, 0), 0);
        DUE.is("output", line.outputByte(0), -1);
    }

    /** "no state is saved" */
    static void p01NoStateIsSaved() {
        for (int slot = 0; slot < 2; slot++) {
            int asked = slot;
            DUE.refused("restore " + slot, NoSuchElementException.class, ClothesLine::new, line -> line.restore(asked));
        }
    }

    /** "and there is no change to undo" */
    static void p01NoChangeToUndo() {
        DUE.is("undoCount", new ClothesLine().undoCount(), 0);
        DUE.refused("undo", Due.NO_STATE, ClothesLine::new, ClothesLine::undo);
    }

    static void p01ObjectsAreApart() {
        ClothesLine line = new ClothesLine();
        ClothesLine other = new ClothesLine();
        other.passMinutes(10);
        other.save(0);
        Due.feed(other, "x");
        DUE.is("minute", line.minute(), 25);
        DUE.is("input", line.feed(0, 0, 0, 0, 0), 0);
        DUE.throwsIt("restore", NoSuchElementException.class, () -> line.restore(0));
    }

    /** "An object is used for at most 512 calls after it has been made" */
    static void p01FiveHundredAndTwelveCalls() {
        ClothesLine line = new ClothesLine();
        for (int call = 1; call <= 510; call++) {
            line.passMinutes(200);
        }
        DUE.is("call 511", line.writeLine(), 24);
        DUE.is("call 512", line.minute(), 102025);
    }

    /** "the four bytes of each parameter in order, the most significant byte first": minutes 7;take 0; */
    static void p02FourBytesOfEachParameterInOrder() {
        ClothesLine line = new ClothesLine();
        DUE.is("feed", line.feed(0x6D696E75, 0x74657320, 0x373B7461, 0x6B652030, 0x3B0A200A), 20);
        DUE.is("runScript", line.runScript(), 2);
        DUE.is("minute", line.minute(), 32);
        DUE.is("taken", line.stateOf(0), ClothesLine.BASKET);
    }

    /** "Appends bytes to the input buffer" */
    static void p02AppendsBehindWhatIsThere() {
        ClothesLine line = new ClothesLine();
        DUE.is("the first", Due.feed(line, "minut"), 5);
        DUE.is("the second", Due.feed(line, "es 7;"), 10);
        DUE.is("runScript", line.runScript(), 1);
        DUE.is("minute", line.minute(), 32);
    }

    /** "Bytes that are 0 are skipped.": minutes 7; with zeros before, between and after */
    static void p02BytesThatAre0AreSkipped() {
        ClothesLine line = new ClothesLine();
        DUE.is("feed", line.feed(0x006D0069, 0x6E750000, 0x00746500, 0x73000020, 0x37003B00), 10);
        DUE.is("runScript", line.runScript(), 1);
        DUE.is("minute", line.minute(), 32);
        DUE.is("each place", line.feed(0x01000000, 0x00010000, 0x00000100, 0x00000001, 0), 4);
    }

    static void p02OnlyZerosAppendNothing() {
        ClothesLine line = new ClothesLine();
        DUE.is("to the empty buffer", line.feed(0, 0, 0, 0, 0), 0);
        Due.feed(line, "minutes 7;");
        DUE.is("to a text", line.feed(0, 0, 0, 0, 0), 10);
        DUE.is("runScript", line.runScript(), 1);
    }

    static void p02BytesFrom128To255AreBytes() {
        ClothesLine line = new ClothesLine();
        DUE.is("feed", line.feed(-1, 0x80000000, 0x00800000, 0x00008000, 0x00000080), 8);
        DUE.is("the sign is no byte", line.feed(0x80000000, 0xFF000000, 0, 0, 0), 10);
    }

    /** "Returns the new length of the input buffer" */
    static void p02AnswersTheNewLength() {
        ClothesLine line = new ClothesLine();
        DUE.is("one", line.feed(0, 0, 0, 0, 32), 1);
        DUE.is("twenty more", Due.feed(line, TWENTY), 21);
        DUE.is("two more", line.feed(32, 0, 0, 32, 0), 23);
    }

    /** "NONE if it would exceed 700": 700 is the last length that is not refused */
    static void p02SevenHundredBytesHaveRoom() {
        ClothesLine line = new ClothesLine();
        for (int fed = 20; fed <= 700; fed += 20) {
            DUE.is("feed to " + fed, Due.feed(line, TWENTY), fed);
        }
        DUE.is("full, and nothing more", line.feed(0, 0, 0, 0, 0), 700);
        DUE.is("full, and one more", line.feed(0, 0, 0, 0, 32), -1);
        DUE.is("full, and twenty more", Due.feed(line, TWENTY), -1);
        DUE.is("still full", line.feed(0, 0, 0, 0, 0), 700);
    }

    private static ClothesLine lineWithSpaces(int spaces) {
        ClothesLine line = new ClothesLine();
        Due.feed(line, " ".repeat(spaces));
        return line;
    }

    /** "in which case nothing is appended" */
    static void p02SevenHundredAndOneBytesAppendNothing() {
        DUE.changesNothing("20 to 681", () -> lineWithSpaces(681), line -> Due.feed(line, "x".repeat(20)));
        DUE.changesNothing("2 to 699", () -> lineWithSpaces(699), line -> line.feed(0x78, 0, 0, 0, 0x78));
        DUE.changesNothing("1 to 700", () -> lineWithSpaces(700), line -> line.feed(0x78, 0, 0, 0, 0));
        DUE.is("20 to 680", Due.feed(lineWithSpaces(680), TWENTY), 700);
        DUE.is("20 to 681", Due.feed(lineWithSpaces(681), TWENTY), -1);
        DUE.is("19 to 681", Due.feed(lineWithSpaces(681), " ".repeat(19)), 700);
    }

    static void p02SevenHundredAndOneBytesInAnyParameter() {
        for (int word = 0; word < 5; word++) {
            ClothesLine line = lineWithSpaces(699);
            int[] words = new int[5];
            words[word] = 0x00200020;
            DUE.is("two in " + word, line.feed(words[0], words[1], words[2], words[3], words[4]), -1);
            DUE.is("after two in " + word, line.feed(0, 0, 0, 0, 0), 699);
            words[word] = 0x00200000;
            DUE.is("one in " + word, line.feed(words[0], words[1], words[2], words[3], words[4]), 700);
        }
    }

    /** One byte more or less decides, whatever its place and its value are. */
    static void p02OneByteAtTheEndInAnyPlace() {
        for (int place = 0; place < 20; place++) {
            for (int sign : new int[] {1, 0x7F, 0x80, 0xFF}) {
                int[] words = new int[5];
                words[place / 4] = sign << 8 * (place % 4);
                ClothesLine full = lineWithSpaces(700);
                DUE.is("to 700", full.feed(words[0], words[1], words[2], words[3], words[4]), -1);
                ClothesLine line = lineWithSpaces(699);
                DUE.is("to 699", line.feed(words[0], words[1], words[2], words[3], words[4]), 700);
            }
        }
    }

    static void p02AllOfSevenHundredBytesAreRead() {
        DUE.is("a command at the end", Due.run(new ClothesLine(), " ".repeat(690) + "minutes 7;"), 1);
        DUE.is("a setup up to the end", Due.load(new ClothesLine(), HEAD + " ".repeat(668) + "minutes 7;"), 0);
        DUE.is("only spaces", Due.run(new ClothesLine(), " ".repeat(700)), 0);
    }

    static void p02IsNoChange() {
        DUE.same("feed", Whole.state(Scenes::quiet, line -> Due.feed(line, "minutes 7;")),
                Whole.state(Scenes::quiet, Whole.NO_CALL));
    }

    /** "Returns the number of garments" */
    static void p03AnswersTheNumberOfGarments() {
        DUE.is("none", Due.load(new ClothesLine(), HEAD), 0);
        DUE.is("one", Due.load(new ClothesLine(), HEAD + "garment 1 1 1 1;minutes 2;"), 1);
        DUE.is("ten", Due.load(new ClothesLine(), HEAD + "garment 1 1 1 1;".repeat(10)), 10);
    }

    /** "If the text has no error, the new line replaces the state" */
    static void p03TheNewLineReplacesTheState() {
        String setup = "line 30 0 24;wind 5;garment 1 2 3 3;garment 2 3 4 0;";
        DUE.same("over a busy line", Whole.state(Scenes::quiet, line -> Due.load(line, setup)),
                Whole.state(() -> Due.lineOf(setup), Whole.NO_CALL));
        DUE.same("over a full line", Whole.state(Scenes::full, line -> Due.load(line, setup)),
                Whole.state(() -> Due.lineOf(setup), Whole.NO_CALL));
        ClothesLine line = Due.lineOf(setup);
        DUE.is("wooden", line.woodenLeft(), 30);
        DUE.is("steel", line.steelLeft(), 0);
        DUE.is("shadow", line.shadowWidth(), 24);
        DUE.is("no shower", line.minutesToRain(), -1);
        DUE.is("no smoke", line.smokySpots(40), 0);
        DUE.is("wind", line.windIn(60), 5);
        DUE.is("came", line.waterCame(), 3);
        DUE.is("dried", line.driedBySun() + line.driedByWind(), 0);
    }

    static void p03ANewGarmentHasNothingOfAnOldOne() {
        ClothesLine line = Scenes.fallen();
        Due.load(line, "line 9 9 0;wind 0;garment 1 1 1 1;");
        DUE.is("state", line.stateOf(0), ClothesLine.BASKET);
        DUE.is("falls", line.fallsOf(0), 0);
        DUE.is("dirty", line.isDirty(0), false);
        DUE.is("free", line.freeSpots(), 0xFFFFFF);
        DUE.is("came", line.waterCame(), 1);
    }

    /** "it is minute 0 ... then the commands are executed" */
    static void p03ItIsMinute0ThenTheCommandsAreExecuted() {
        ClothesLine line = Scenes.quiet();
        Due.load(line, HEAD);
        DUE.is("without commands", line.minute(), 0);
        Due.load(line, HEAD + "minutes 200;minutes 1;");
        DUE.is("with commands", line.minute(), 201);
    }

    /** "no change can be undone" */
    static void p03NoChangeCanBeUndone() {
        Supplier<ClothesLine> loaded = () -> {
            ClothesLine line = Scenes.full();
            Due.load(line, HEAD + "garment 1 1 1 1;minutes 2;");
            return line;
        };
        DUE.is("undoCount", loaded.get().undoCount(), 0);
        DUE.refused("undo", Due.NO_STATE, loaded, ClothesLine::undo);
    }

    /** "and no state is saved" */
    static void p03NoStateIsSaved() {
        Supplier<ClothesLine> loaded = () -> {
            ClothesLine line = Scenes.full();
            Due.load(line, HEAD);
            return line;
        };
        DUE.refused("restore 0", NoSuchElementException.class, loaded, line -> line.restore(0));
        DUE.refused("restore 1", NoSuchElementException.class, loaded, line -> line.restore(1));
    }

    /** "If the text has an error, the state does not change." */
    static void p03AnErrorLeavesTheState() {
        String[] wrong = {"", "line 1 1 1;", "line 30 30 24;wind 6;", HEAD + "minutes 5;take 0;",
            HEAD + "garment 1 1 1 1;minutes 5;take 0;", HEAD + "garment 1 1 1 1;".repeat(11), HEAD + "minutes 5;x"};
        for (String text : wrong) {
            Consumer<ClothesLine> load = line -> Due.load(line, text);
            DUE.is("loadSetup " + text, Due.load(Scenes.quiet(), text), -1);
            DUE.same(text, Whole.state(Scenes::quiet, load), Whole.state(Scenes::quiet, Whole.NO_CALL));
            DUE.same("full: " + text, Whole.state(Scenes::full, load), Whole.state(Scenes::full, Whole.NO_CALL));
        }
    }

    /** "The input buffer is empty afterwards in both cases." */
    static void p03TheInputIsEmptyAfterwards() {
        ClothesLine line = new ClothesLine();
        Due.load(line, HEAD);
        DUE.is("without an error", line.feed(0, 0, 0, 0, 0), 0);
        Due.load(line, HEAD + "x minutes 7;");
        DUE.is("with an error", line.feed(0, 0, 0, 0, 0), 0);
        DUE.is("an empty text is no setup", line.loadSetup(), -1);
    }

    static void p03TheOutputStays() {
        ClothesLine line = new ClothesLine();
        line.writeLine();
        Due.load(line, "line 0 0 0;wind 0;");
        DUE.is("without an error", line.outputByte(12), '2');
        Due.load(line, "x");
        DUE.is("with an error", line.outputByte(12), '2');
    }

    /** "Returns the number of commands" */
    static void p04AnswersTheNumberOfCommands() {
        DUE.is("an empty text", new ClothesLine().runScript(), 0);
        DUE.is("only spaces", Due.run(new ClothesLine(), " \n \n"), 0);
        DUE.is("one", Due.run(new ClothesLine(), "minutes 1;"), 1);
        DUE.is("forty", Due.run(new ClothesLine(), "minutes 1;".repeat(40)), 40);
    }

    /** "The commands have the effects of addGarment(), hang(), ..." */
    static void p04TheCommandsHaveTheEffectsOfTheMethods() {
        effect("garment 6 9 8 7;", line -> line.addGarment(6, 9, 8, 7));
        effect("garment 1 99 999 0;", line -> line.addGarment(1, 99, 999, 0));
        effect("hang 2 7 3 1;", line -> line.hang(2, 7, 3, 1));
        effect("hang 3 0 0 1;", line -> line.hang(3, 0, 0, 1));
        effect("take 1;", line -> line.takeDown(1));
        effect("pick 0;", line -> line.pickUp(0));
        effect("wash 3;", line -> line.wash(3));
        effect("shift 1 22;", line -> line.shift(1, 22));
        effect("shower 9 100 20;", line -> line.addShower(9, 100, 20));
        effect("smoke 25 26;", line -> line.addSmoke(25, 26));
        effect("wind 1 5;", line -> line.setWind(1, 5));
        effect("minutes 200;", line -> line.passMinutes(200));
    }

    private static void effect(String script, Consumer<ClothesLine> method) {
        DUE.is(script, Due.run(Scenes.quiet(), script), 1);
        DUE.same(script, Whole.state(Scenes::quiet, line -> Due.run(line, script)), Whole.state(Scenes::quiet, method));
    }

    /** "A command is executed when its semicolon has been read." */
    static void p04ACommandIsExecutedAtItsSemicolon() {
        ClothesLine line = new ClothesLine();
        DUE.is("added, then hung", Due.run(line, "garment 1 1 9 5;hang 4 20 1 0;minutes 2;shift 4 0;take 4;"), 5);
        DUE.is("dried by the sun and the wind of two minutes", line.waterOf(4), 1);
        DUE.is("set, then passed", Due.run(line, "wind 0 5;hang 4 20 1 0;minutes 1;wind 0 0;minutes 33;"), 5);
        DUE.is("taken, then washed", Due.run(line, "take 0;wash 0;take 1;hang 0 5 2 0;"), 4);
        DUE.is("in its order", line.spotOf(0) * 1000 + line.waterOf(0), 5200);
    }

    /** "All commands together are one change." */
    static void p04AllCommandsAreOneChange() {
        Consumer<ClothesLine> script = line -> Due.run(line, "take 1;wash 2;garment 6 9 8 7;minutes 9;wind 1 0;pick 0;");
        ClothesLine line = Scenes.quiet();
        script.accept(line);
        DUE.is("undoCount", line.undoCount(), 3);
        DUE.same("undone at once", Whole.state(Scenes::quiet, script.andThen(ClothesLine::undo)),
                Whole.state(Scenes::quiet, Whole.NO_CALL));
    }

    /** "A change is a call of runScript() whose text has no error ... even if it alters nothing" */
    static void p04AScriptWithoutCommandsIsAChange() {
        ClothesLine line = new ClothesLine();
        line.runScript();
        DUE.is("undoCount", line.undoCount(), 1);
        DUE.is("undo", line.undo(), 0);
    }

    /** "If the text has an error, the state does not change at all." */
    static void p04AnErrorLeavesTheState() {
        String[] wrong = {"x", "minutes 5", "take 1;wash 1;garment 1 1 1 1;minutes 5;shower 0 1 1;wind 0 5;take 1;",
            "pick 0;wash 0;minutes 201;", "shower 0 1 1;smoke 1 1;x", "wind 0 1;".repeat(41), "garment 1 1 1 1;".repeat(7)};
        for (String text : wrong) {
            Consumer<ClothesLine> run = line -> Due.run(line, text);
            DUE.is("runScript " + text, Due.run(Scenes.quiet(), text), -1);
            DUE.same(text, Whole.state(Scenes::quiet, run), Whole.state(Scenes::quiet, Whole.NO_CALL));
            DUE.same("full: " + text, Whole.state(Scenes::full, run), Whole.state(Scenes::full, Whole.NO_CALL));
        }
    }

    /** "The input buffer is empty afterwards in both cases." */
    static void p04TheInputIsEmptyAfterwards() {
        ClothesLine line = new ClothesLine();
        Due.run(line, "minutes 1;");
        DUE.is("without an error", line.feed(0, 0, 0, 0, 0), 0);
        Due.run(line, "x minutes 7;");
        DUE.is("with an error", line.feed(0, 0, 0, 0, 0), 0);
        DUE.is("the next text", Due.run(line, "minutes 1;"), 1);
        DUE.is("minute", line.minute(), 27);
    }

    static void p04TheOutputStays() {
        ClothesLine line = new ClothesLine();
        line.writeLine();
        Due.run(line, "take 2;");
        DUE.is("without an error", line.outputByte(12), '2');
        Due.run(line, "x");
        DUE.is("with an error", line.outputByte(12), '2');
    }
}
