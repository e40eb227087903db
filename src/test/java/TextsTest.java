/** Promises 1 to 6: the new line, and the texts. */
public final class TextsTest {
    private static final String FIRST = "line 8 3 6; wind 1 0 3; garment 3 12 200 180; garment 1 4 60 60; garment 5 40 "
            + "600 500; garment 2 9 90 0; shower 100 20 2; smoke 30 70; hang 0 2 2 0; hang 1 8 1 0; hang 2 12 1 2; "
            + "minutes 25;";
    private static final String HEAD = "line 8 3 6;wind 1 0 3;";
    private static final Due DUE = new Due("TextsTest");

    public static void main(String[] args) {
        promise1NewLine();
        promise2Feed();
        promise3LoadSetup();
        promise4RunScript();
        promise5And6ErrorsOfSetups();
        promise5And6ErrorsOfScripts();
        promise5And6ErrorsOfNumbers();
        promise5And6Limits();
        promise5And6TextBefore();
        promise5And6LatestCall();
        DUE.end();
    }

    private static void promise1NewLine() {
        ClothesLine line = new ClothesLine();
        DUE.is("new: minute", line.minute(), 25);
        DUE.is("new: shadow", line.shadowWidth(), 6);
        DUE.is("new: undoCount", line.undoCount(), 0);
        DUE.is("new: errorCode", line.errorCode(), 0);
        DUE.is("new: errorPosition", line.errorPosition(), -1);
        DUE.is("new: garments", line.garmentCount(), 4);
        DUE.is("new: wooden", line.woodenLeft(), 4);
        DUE.is("new: steel", line.steelLeft(), 1);
        DUE.is("new: water 0", line.waterOf(0), 155);
        DUE.is("new: water 1", line.waterOf(1), 10);
        DUE.is("new: water 2", line.waterOf(2), 350);
        DUE.is("new: spot 2", line.spotOf(2), 12);
        DUE.is("new: state 3", line.stateOf(3), ClothesLine.BASKET);
        DUE.is("new: came", line.waterCame(), 740);
        DUE.is("new: output", line.outputByte(0), -1);
        DUE.is("new: input", line.feed(0, 0, 0, 0, 0), 0);
        for (int slot = 0; slot < 2; slot++) {
            int asked = slot;
            DUE.throwsIt("new: restore", java.util.NoSuchElementException.class, () -> line.restore(asked));
        }
        DUE.throwsIt("new: undo", IllegalStateException.class, line::undo);
        DUE.same("new: as the setup", Due.seen(line), Due.seen(Due.lineOf(FIRST)));
        ClothesLine other = new ClothesLine();
        other.passMinutes(10);
        DUE.is("new: objects are apart", line.minute(), 25);
    }

    private static void promise2Feed() {
        ClothesLine line = new ClothesLine();
        DUE.is("feed five", line.feed(0x74616B65, 0x20303B00, 0, 0x0000000A, 0x20000000), 9);
        DUE.is("feed: order", line.runScript(), 1);
        DUE.is("feed: taken", line.stateOf(0), ClothesLine.BASKET);
        DUE.is("feed: high bytes", line.feed(-1, 0x80000000, 0x00800000, 0x00008000, 0x00000080), 8);
        DUE.is("feed: high bytes are read", line.runScript(), -1);
        DUE.is("feed: high bytes are no tokens", line.errorCode(), 1);
        DUE.is("feed: emptied", line.feed(0, 0, 0, 0, 0), 0);
        String twenty = "                    ";
        for (int fed = 20; fed <= 680; fed += 20) {
            DUE.is("feed to " + fed, Due.feed(line, twenty), fed);
        }
        DUE.is("feed 10", Due.feed(line, "          "), 690);
        DUE.is("feed 11 too many", Due.feed(line, "           "), -1);
        DUE.is("feed nothing appended", line.feed(0, 0, 0, 0, 0), 690);
        DUE.is("feed the rest", line.feed(0x20202020, 0x20202020, 0x00200020, 0, 0), 700);
        DUE.is("feed full and nothing", line.feed(0, 0, 0, 0, 0), 700);
        DUE.is("feed full and one", line.feed(0, 0, 0, 0, 1), -1);
        DUE.is("feed: 700 spaces", line.runScript(), 0);
        for (int word = 0; word < 5; word++) {
            for (int fed = 0; fed < 34; fed++) {
                Due.feed(line, twenty);
            }
            Due.feed(line, twenty.substring(1));
            int[] two = new int[5];
            two[word] = 0x00200020;
            DUE.is("feed two to 699 in the word " + word, line.feed(two[0], two[1], two[2], two[3], two[4]), -1);
            DUE.is("feed stays at 699", line.feed(0, 0, 0, 0, 0), 699);
            two[word] = 0x20;
            DUE.is("feed one to 699 in the word " + word, line.feed(two[0], two[1], two[2], two[3], two[4]), 700);
            line.loadSetup();
        }
        DUE.is("feed after", line.feed(0, 0, 0, 0, 1), 1);
    }

    private static void promise3LoadSetup() {
        ClothesLine line = new ClothesLine();
        line.passMinutes(7);
        line.save(0);
        String before = Due.seen(line);
        DUE.is("load: error", Due.load(line, HEAD + "garment 1 1 1 1;minutes 5;take 0;"), -1);
        DUE.same("load: error changes nothing", Due.seen(line), before);
        DUE.is("load: emptied after error", line.feed(0, 0, 0, 0, 0), 0);
        DUE.is("load: slots stay after error", line.restore(0), 32);
        line.passMinutes(1);
        line.save(1);
        DUE.is("load: good", Due.load(line, "line 30 0 24;wind 5;garment 1 2 3 3;garment 2 3 4 0;minutes 2;"), 2);
        DUE.is("load: emptied", line.feed(0, 0, 0, 0, 0), 0);
        DUE.is("load: minute", line.minute(), 2);
        DUE.is("load: undo", line.undoCount(), 0);
        DUE.is("load: wooden", line.woodenLeft(), 30);
        DUE.is("load: steel", line.steelLeft(), 0);
        DUE.is("load: shadow", line.shadowWidth(), 24);
        DUE.is("load: no shower", line.minutesToRain(), -1);
        DUE.is("load: no smoke", line.smokySpots(40), 0);
        DUE.is("load: wind", line.windIn(60), 5);
        DUE.is("load: came", line.waterCame(), 3);
        DUE.throwsIt("load: slot 0", java.util.NoSuchElementException.class, () -> line.restore(0));
        DUE.throwsIt("load: slot 1", java.util.NoSuchElementException.class, () -> line.restore(1));
        DUE.throwsIt("load: undo", IllegalStateException.class, line::undo);
        DUE.is("load: no commands", Due.load(line, "line 0 0 0 ; wind 0 ;"), 0);
        DUE.is("load: minute 0", line.minute(), 0);
        DUE.is("load: empty text", line.loadSetup(), -1);
        DUE.is("load: empty text's code", line.errorCode(), 1);
        DUE.is("load: empty text's position", line.errorPosition(), 0);
        DUE.is("load: output stays", writtenThenLoaded(), 50);
    }

    private static int writtenThenLoaded() {
        ClothesLine line = new ClothesLine();
        line.writeLine();
        Due.load(line, "line 0 0 0;wind 0;");
        return line.outputByte(12);
    }

    private static void promise4RunScript() {
        ClothesLine line = new ClothesLine();
        String first = Due.seen(line);
        DUE.is("run: error", Due.run(line, "take 0;wash 0;garment 1 1 1 1;minutes 5;shower 0 1 1;wind 0 5;take 0;"), -1);
        DUE.same("run: error changes nothing", Due.seen(line), first);
        DUE.is("run: emptied after error", line.feed(0, 0, 0, 0, 0), 0);
        DUE.is("run: good", Due.run(line, "take 0;wash 0;garment 6 9 8 7;hang 4 18 1 0;shift 1 9;minutes 3;"
                + "shower 90 2 3;smoke 28 28;wind 2 5;minutes 1;"), 10);
        DUE.is("run: one change", line.undoCount(), 1);
        DUE.is("run: wash", line.smellOf(0) + line.waterOf(0), 200);
        DUE.is("run: garment", line.widthOf(4) * 1000 + line.dryWeight(4) * 100 + line.capacityOf(4) * 10, 6980);
        DUE.is("run: hang", line.spotOf(4) * 100 + line.woodenOf(4) * 10 + line.steelOf(4), 1810);
        DUE.is("run: shift", line.spotOf(1), 9);
        DUE.is("run: minutes", line.minute(), 29);
        DUE.is("run: shower", line.rainIn(91), 3);
        DUE.is("run: smoke", line.smokySpots(28), 15);
        DUE.is("run: wind", line.windIn(120), 5);
        DUE.is("run: undo", line.undo(), 0);
        DUE.same("run: undone at once", Due.seen(line), first);
        DUE.is("run: empty text", line.runScript(), 0);
        DUE.is("run: empty text is a change", line.undoCount(), 1);
        DUE.is("run: only spaces", Due.run(line, " \n \n"), 0);
        DUE.is("run: pick", Due.run(Due.lineOf("line 1 0 0;wind 0;garment 1 11 90 90;hang 0 0 1 0;shower 0 1 1;"
                + "minutes 1;"), "wind 0 1;"), 1);
        ClothesLine fallen = Due.lineOf("line 1 0 0;wind 0;garment 1 11 99 89;hang 0 0 1 0;garment 1 9 990 0;"
                + "take 0;hang 1 0 1 0;shower 0 9 20;minutes 9;");
        DUE.is("run: fell", fallen.stateOf(1), ClothesLine.GROUND);
        DUE.is("run: pick and hang", Due.run(fallen, "pick 1;wash 1;"), 2);
        DUE.is("run: picked", fallen.stateOf(1), ClothesLine.BASKET);
        DUE.is("run: forty commands", Due.run(line, "minutes 1;".repeat(40)), 40);
        DUE.is("run: forty minutes", line.minute(), 65);
        DUE.is("run: words and numbers need no space", Due.run(line, "minutes1;\nwind\n0 5 ;take0;"), 3);
    }

    /** The mark ^ stands before the first byte of the wrong token. */
    private static void bad(boolean setup, int code, String marked) {
        ClothesLine line = new ClothesLine();
        String text = marked.replace("^", "");
        int answer = setup ? Due.load(line, text) : Due.run(line, text);
        DUE.is("text " + marked, answer, -1);
        DUE.is("code of " + marked, line.errorCode(), code);
        DUE.is("position of " + marked, line.errorPosition(), marked.indexOf('^'));
    }

    private static void promise5And6ErrorsOfSetups() {
        bad(true, 1, "^");
        bad(true, 1, "  \n^");
        bad(true, 1, "^8 3 6;");
        bad(true, 1, "^;");
        bad(true, 1, "^lines 8 3 6;");
        bad(true, 1, "^lin 8 3 6;");
        bad(true, 1, "^wind 1;");
        bad(true, 1, "^garment 1 1 1 1;");
        bad(true, 1, " ^Line 8 3 6;");
        bad(true, 1, "^liNe 8 3 6;");
        bad(true, 1, "line^\t8 3 6;");
        bad(true, 1, "line ^-8 3 6;");
        bad(true, 1, "line 8^. 3 6;");
        bad(true, 1, "line 8 ^;");
        bad(true, 1, "line 8 3 ^;");
        bad(true, 1, "line 8 3 6 ^7;");
        bad(true, 1, "line 8 3 6 ^wind 1;");
        bad(true, 1, "line 8 3 6;^");
        bad(true, 1, "line 8 3 6; ^hang 0 0 1 0;");
        bad(true, 1, "line 8 3 6; wind ^;");
        bad(true, 1, "line 8 3 6; wind ^x;");
        bad(true, 1, "line 8 3 6; wind 1 ^x;");
        bad(true, 1, "line 8 3 6; wind 1 0 3^");
        bad(true, 1, "line 8 3 6; wind 1 0 3 \n ^");
        bad(true, 1, HEAD + "^line 8 3 6;");
        bad(true, 1, HEAD + "^;");
        bad(true, 1, HEAD + "^7;");
        bad(true, 1, HEAD + "garment 1 1 1 1^");
        bad(true, 2, "line ^31 3 6; wind 1;");
        bad(true, 2, "line 8 ^31 6; wind 1;");
        bad(true, 2, "line 8 3 ^25; wind 1;");
        bad(true, 2, "line 8 3 6; wind ^6;");
        bad(true, 2, "line 8 3 6; wind 1 2 3 4 5 0 1 ^6;");
        bad(true, 2, "line 8 3 6; wind 1 2 3 4 5 0 1 2 ^6;");
        bad(true, 4, "line 8 3 6; wind 1 2 3 4 5 0 1 2 ^3;");
        bad(true, 1, "line 8 3 6; wind 1 2 3 4 5 0 1 2 ^x;");
        bad(true, 2, HEAD + "hang ^0 0 1 0;");
        bad(true, 2, HEAD + "wind ^3 0;");
        bad(true, 3, HEAD + "garment 1 1 1 1; take 0^;");
        ClothesLine eight = Due.lineOf("line 30 30 24;wind 1 2 3 4 5 0 1 2;");
        DUE.is("eight winds", eight.windIn(479), 2);
        DUE.is("eight winds and again", eight.windIn(480), 1);
        DUE.is("thirty pegs", eight.woodenLeft() + eight.steelLeft(), 60);
    }

    private static void promise5And6ErrorsOfScripts() {
        bad(false, 1, "^hangs 0 0 1 0;");
        bad(false, 1, "^ha 0 0 1 0;");
        bad(false, 1, "^takez 0;");
        bad(false, 1, "^atake 0;");
        bad(false, 1, "^bake 0;");
        bad(false, 1, "take^{0;");
        bad(false, 1, "take^`0;");
        bad(false, 1, "take 0^:");
        bad(false, 1, "take 0^/;");
        bad(false, 1, "take 0^<;");
        bad(false, 1, "^handle 0 0 1 0;");
        bad(false, 1, "^line 8 3 6;");
        bad(false, 1, "minutes 1^:");
        bad(false, 1, "minutes 1;^;");
        bad(false, 1, "minutes ^minutes;");
        bad(false, 1, "minutes 1 ^1;");
        bad(false, 1, "minutes^");
        bad(false, 1, "minutes 1^");
        bad(false, 1, "minutes 1  ^");
        bad(false, 1, "garment 1 1 1 ^;");
        bad(false, 1, "hang 3 0 1 ^;");
        bad(false, 1, "take ^;");
        bad(false, 1, "pick ^;");
        bad(false, 1, "wash ^;");
        bad(false, 1, "shift 0 ^;");
        bad(false, 1, "shower 1 1 ^;");
        bad(false, 1, "smoke 1 ^;");
        bad(false, 1, "wind 1 ^;");
        bad(false, 1, "take 0;^@");
        bad(false, 1, "take 0^\u00e9;");
        bad(false, 3, "take 3^;");
        bad(false, 3, "take 0;take 0 ^;");
        bad(false, 3, "pick 0^;");
        bad(false, 3, "pick 3^;");
        bad(false, 3, "wash 0^;");
        bad(false, 3, "hang 0 20 1 0^;");
        bad(false, 3, "hang 3 23 1 0^;");
        bad(false, 3, "hang 3 7 1 0^;");
        bad(false, 3, "hang 3 5 0 0^;");
        bad(false, 3, "hang 3 5 3 2^;");
        bad(false, 3, "hang 3 5 0 2^;");
        bad(false, 3, "garment 1 99 1 0;hang 4 0 2 0^;");
        bad(false, 3, "shift 3 0^;");
        bad(false, 3, "shift 0 22^;");
        bad(false, 3, "shift 0 6^;");
        bad(false, 3, "garment 1 5 200 0;hang 4 20 1 0;shower 25 10 20;minutes 10;take 4^;");
        bad(false, 3, "garment 1 5 200 0;hang 4 20 1 0;shower 25 10 20;minutes 7;pick 4^;");
    }

    private static void promise5And6ErrorsOfNumbers() {
        bad(false, 2, "garment ^0 1 1 1;");
        bad(false, 2, "garment ^7 1 1 1;");
        bad(false, 2, "garment 1 ^0 1 1;");
        bad(false, 2, "garment 1 ^100 1 1;");
        bad(false, 2, "garment 1 1 ^0 1;");
        bad(false, 2, "garment 1 1 ^1000 1;");
        bad(false, 2, "garment 1 1 17 ^18;");
        bad(false, 2, "hang ^4 0 1 0;");
        bad(false, 2, "hang 3 ^24 1 0;");
        bad(false, 2, "hang 3 0 ^5 0;");
        bad(false, 2, "hang 3 0 0 ^5;");
        bad(false, 2, "take ^4;");
        bad(false, 2, "garment 1 1 1 1; take ^5;");
        bad(false, 2, "pick ^4;");
        bad(false, 2, "wash ^4;");
        bad(false, 2, "shift ^4 0;");
        bad(false, 2, "shift 0 ^24;");
        bad(false, 2, "shower ^10000 1 1;");
        bad(false, 2, "shower 0 ^0 1;");
        bad(false, 2, "shower 0 ^201 1;");
        bad(false, 2, "shower 0 1 ^0;");
        bad(false, 2, "shower 0 1 ^21;");
        bad(false, 2, "smoke ^10000 0;");
        bad(false, 2, "smoke 5 ^4;");
        bad(false, 2, "smoke 5 ^10000;");
        bad(false, 2, "wind ^3 0;");
        bad(false, 2, "wind 0 ^6;");
        bad(false, 2, "minutes ^0;");
        bad(false, 2, "minutes ^201;");
        bad(false, 2, "minutes ^4294967297;");
        bad(false, 2, "minutes ^18446744073709551617;");
        bad(false, 2, "minutes ^" + "9".repeat(600) + ";");
        bad(false, 2, "minutes ^" + "0".repeat(600) + ";");
        ClothesLine line = new ClothesLine();
        DUE.is("leading zeros", Due.run(line, "minutes " + "0".repeat(600) + "7;"), 1);
        DUE.is("leading zeros' value", line.minute(), 32);
        DUE.is("largest numbers", Due.run(line, "garment 6 99 999 999;garment 1 1 1 0;shower 9999 200 20;"
                + "smoke 9999 9999;wind 2 5;minutes 200;shift 1 23;"), 7);
        DUE.is("largest capacity", line.capacityOf(4), 999);
        DUE.is("latest smoke", line.smokySpots(9999), line.windIn(9999) * 4 == 0 ? 0 : (1 << line.windIn(9999) * 4) - 1);
        DUE.is("latest shower", line.rainIn(10198) * 100 + line.rainIn(10199), 2000);
    }

    private static void promise5And6Limits() {
        String six = "garment 1 1 1 1;".repeat(6);
        bad(false, 4, six + "^garment 1 1 1 1;");
        bad(false, 4, six + "^garment ;");
        bad(false, 1, six + "^garments 1 1 1 1;");
        bad(true, 4, HEAD + "garment 1 1 1 1;".repeat(10) + "^garment 9 9 9 9;");
        bad(false, 4, "shower 1 1 1;".repeat(3) + "^shower 0 0 0;");
        bad(false, 4, "smoke 1 1;".repeat(3) + "^smoke 1 1;");
        String forty = "wind 0 1;".repeat(40);
        bad(false, 4, forty + "^wind 0 1;");
        bad(false, 4, forty + "^minutes");
        bad(false, 1, forty + "^foo 0 1;");
        bad(false, 1, forty + "^;");
        bad(false, 1, forty + "^1");
        bad(true, 4, HEAD + forty + " ^wind 0 1;");
        ClothesLine line = new ClothesLine();
        DUE.is("forty in a setup", Due.load(line, HEAD + forty), 0);
        DUE.is("ten garments", Due.load(line, HEAD + "garment 1 1 1 1;".repeat(10)), 10);
        DUE.is("four showers and smoke times", Due.run(line, "shower 1 1 1;smoke 1 1;".repeat(4)), 8);
    }

    /** What stands in the buffer behind a text, from a longer one before, is not of the text. */
    private static void promise5And6TextBefore() {
        ClothesLine line = new ClothesLine();
        Due.run(line, "minutesaaaa");
        Due.run(line, "minutes");
        DUE.is("letters behind the text", line.errorPosition(), 7);
        Due.run(line, "minutes 1999;");
        Due.run(line, "minutes 1");
        DUE.is("digits behind the text", line.errorCode() * 100 + line.errorPosition(), 109);
        Due.run(line, "          ");
        Due.run(line, "take 0");
        DUE.is("spaces behind the text", line.errorPosition(), 6);
        Due.run(line, "take 0;");
        DUE.is("taken", line.undoCount(), 2);
        Due.run(line, "hang 0");
        DUE.is("a semicolon behind the text", line.errorPosition(), 6);
    }

    private static void promise5And6LatestCall() {
        ClothesLine line = new ClothesLine();
        Due.run(line, "take 9;");
        DUE.is("code", line.errorCode(), 2);
        DUE.is("position", line.errorPosition(), 5);
        line.passMinutes(1);
        line.undo();
        line.save(0);
        line.restore(0);
        Due.feed(line, "x");
        DUE.is("code stays", line.errorCode(), 2);
        DUE.is("position stays", line.errorPosition(), 5);
        line.loadSetup();
        DUE.is("code of a setup", line.errorCode(), 1);
        DUE.is("position of a setup", line.errorPosition(), 0);
        Due.run(line, "take 0;");
        DUE.is("no code", line.errorCode(), 0);
        DUE.is("no position", line.errorPosition(), -1);
        Due.run(line, "take 0;");
        DUE.is("code 3", line.errorCode(), 3);
        line.undo();
        DUE.is("code after undo", line.errorCode(), 3);
        Due.load(line, "line 0 0 0;wind 0;");
        DUE.is("no code of a setup", line.errorCode(), 0);
        DUE.is("no position of a setup", line.errorPosition(), -1);
    }
}
