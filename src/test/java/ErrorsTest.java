import java.util.function.Supplier;

/** Promises 5 and 6: the code and the position of what is wrong in a text. */
public final class ErrorsTest {
    private static final String HEAD = "line 8 3 6;wind 1 0 3;";
    private static final String[] WORDS = {"garment", "hang", "take", "pick", "wash", "shift", "shower", "smoke", "wind",
        "minutes"};

    /** A command of each kind, as tokens; each can be executed on a new line. */
    private static final String[] COMMANDS = {"garment 1 2 30 4 ;", "hang 3 0 1 0 ;", "take 0 ;", "wash 3 ;", "shift 0 5 ;",
        "shower 1 2 3 ;", "smoke 4 5 ;", "wind 1 2 ;", "minutes 5 ;"};

    private static final Due DUE = new Due("ErrorsTest");

    public static void main(String[] args) {
        DUE.everyTestOf(ErrorsTest.class);
    }

    /** The first mark ^ stands before the first byte of the wrong token. */
    private static void bad(Supplier<ClothesLine> scene, boolean setup, int code, String marked) {
        ClothesLine line = scene.get();
        String text = marked.replaceFirst("\\^", "");
        DUE.is("text " + marked, setup ? Due.load(line, text) : Due.run(line, text), -1);
        DUE.is("code of " + marked, line.errorCode(), code);
        DUE.is("position of " + marked, line.errorPosition(), marked.indexOf('^'));
    }

    private static void badScript(int code, String marked) {
        bad(ClothesLine::new, false, code, marked);
    }

    private static void badSetup(int code, String marked) {
        bad(ClothesLine::new, true, code, marked);
    }

    private static void good(Supplier<ClothesLine> scene, boolean setup, String text) {
        ClothesLine line = scene.get();
        DUE.is("text " + text, (setup ? Due.load(line, text) : Due.run(line, text)) >= 0, true);
        DUE.is("code of " + text, line.errorCode(), 0);
        DUE.is("position of " + text, line.errorPosition(), -1);
    }

    private static void goodScript(String text) {
        good(ClothesLine::new, false, text);
    }

    private static void goodSetup(String text) {
        good(ClothesLine::new, true, text);
    }

    /** The ends of a number's range between two parts of a script, and the numbers beside them. */
    private static void range(Supplier<ClothesLine> scene, String before, int low, int high, String after) {
        good(scene, false, before + low + after);
        good(scene, false, before + high + after);
        bad(scene, false, 2, before + "^" + (high + 1) + after);
        if (low > 0) {
            bad(scene, false, 2, before + "^" + (low - 1) + after);
        }
    }

    private static void rangeInSetup(String before, int low, int high, String after) {
        goodSetup(before + low + after);
        goodSetup(before + high + after);
        badSetup(2, before + "^" + (high + 1) + after);
    }

    private static Supplier<ClothesLine> lineOf(String setup) {
        return () -> Due.lineOf(setup);
    }

    // ---- which call it is

    /** "0 if ... there was no such call" */
    static void p05NoCallIs0() {
        DUE.is("new", new ClothesLine().errorCode(), 0);
        ClothesLine line = new ClothesLine();
        Due.feed(line, "x");
        line.passMinutes(1);
        DUE.is("text not yet read", line.errorCode(), 0);
    }

    /** "NONE if ... there was no such call" */
    static void p06NoCallIsNone() {
        DUE.is("new", new ClothesLine().errorPosition(), -1);
        ClothesLine line = new ClothesLine();
        Due.feed(line, "x");
        line.passMinutes(1);
        DUE.is("text not yet read", line.errorPosition(), -1);
    }

    private static ClothesLine lineWithError() {
        ClothesLine line = new ClothesLine();
        Due.run(line, "take 9;");
        return line;
    }

    /** "0 if its text had no error" */
    static void p05NoErrorIs0() {
        ClothesLine line = lineWithError();
        DUE.is("before", line.errorCode(), 2);
        Due.run(line, "minutes 1;");
        DUE.is("script", line.errorCode(), 0);
        ClothesLine other = lineWithError();
        Due.load(other, HEAD);
        DUE.is("setup", other.errorCode(), 0);
        ClothesLine empty = lineWithError();
        empty.runScript();
        DUE.is("script without commands", empty.errorCode(), 0);
    }

    /** "NONE if its text had no error" */
    static void p06NoErrorIsNone() {
        ClothesLine line = lineWithError();
        DUE.is("before", line.errorPosition(), 5);
        Due.run(line, "minutes 1;");
        DUE.is("script", line.errorPosition(), -1);
        ClothesLine other = lineWithError();
        Due.load(other, HEAD);
        DUE.is("setup", other.errorPosition(), -1);
        ClothesLine empty = lineWithError();
        empty.runScript();
        DUE.is("script without commands", empty.errorPosition(), -1);
    }

    /** "the latest call of loadSetup() or runScript()" */
    static void p05TheLatestCallCounts() {
        ClothesLine line = lineWithError();
        Due.load(line, "x");
        DUE.is("setup after script", line.errorCode(), 1);
        Due.run(line, "take 3;");
        DUE.is("script after setup", line.errorCode(), 3);
    }

    static void p06TheLatestCallCounts() {
        ClothesLine line = lineWithError();
        Due.load(line, "x");
        DUE.is("setup after script", line.errorPosition(), 0);
        Due.run(line, "take 3;");
        DUE.is("script after setup", line.errorPosition(), 6);
    }

    private static ClothesLine errorAndOtherCalls() {
        ClothesLine line = new ClothesLine();
        line.passMinutes(1);
        line.save(0);
        Due.run(line, "take 9;");
        line.passMinutes(1);
        line.undo();
        Due.feed(line, "minutes 1;");
        line.writeLine();
        line.restore(0);
        return line;
    }

    /** "The state that undo() and restore() bring back consists of everything except ... the reported error" */
    static void p05OtherCallsLeaveTheCode() {
        DUE.is("code", errorAndOtherCalls().errorCode(), 2);
    }

    static void p06OtherCallsLeaveThePosition() {
        DUE.is("position", errorAndOtherCalls().errorPosition(), 5);
    }

    // ---- tokens

    private static boolean isOfATokenOrBetween(int sign) {
        return sign >= 'a' && sign <= 'z' || sign >= '0' && sign <= '9' || sign == ';' || sign == ' ' || sign == '\n';
    }

    /** "1 (syntax): the byte belongs to no token" */
    static void p05AByteThatBelongsToNoToken() {
        for (int sign = 1; sign < 256; sign++) {
            if (!isOfATokenOrBetween(sign)) {
                badScript(1, "^" + (char) sign);
                badScript(1, "take 0;^" + (char) sign);
                badScript(1, "take 0^" + (char) sign + ";");
                badScript(1, "take^" + (char) sign + "0;");
                badScript(1, "take ^" + (char) sign + "0;");
                badSetup(1, "^" + (char) sign + HEAD);
                badSetup(1, "line 8 3 6;wind 1^" + (char) sign);
            }
        }
    }

    /** "a word (a maximal run of the letters a to z)" */
    static void p05AWordIsAMaximalRunOfLetters() {
        for (String word : WORDS) {
            badScript(1, "^" + word + "s 0 0 0 0;");
            badScript(1, "^a" + word + " 0 0 0 0;");
            badScript(1, "^" + word + "z 0 0 0 0;");
            badScript(1, "^z" + word + " 0 0 0 0;");
            badScript(1, "^z" + word.substring(1) + " 0 0 0 0;");
            badScript(1, "^" + word.substring(0, word.length() - 1) + " 0 0 0 0;");
            badScript(1, "^" + word.substring(1) + " 0 0 0 0;");
            badScript(1, "^" + word.substring(0, 1) + " " + word.substring(1) + " 0 0 0 0;");
            badScript(1, "^" + word.substring(0, word.length() - 1) + "z 0 0 0 0;");
            badScript(1, "^" + word.substring(0, 1).toUpperCase() + word.substring(1) + " 0 0 0 0;");
        }
        badSetup(1, "^lines 8 3 6;wind 1;");
        badSetup(1, "^lin 8 3 6;wind 1;");
        badSetup(1, "^linewind 8 3 6;wind 1;");
        badSetup(1, "line 8 3 6;^winds 1;");
        badSetup(1, "line 8 3 6;^win 1;");
    }

    /** "a number (a maximal run of decimal digits of any length ...)" */
    static void p05ANumberIsAMaximalRunOfDigits() {
        badScript(1, "minutes 20 ^0;");
        badScript(2, "minutes ^2000;");
        badScript(1, "wind 1^:");
        badScript(1, "wind 1^/");
        goodScript("wind 0 1;wind 1 2;wind 2 3;wind 0 4;wind 0 5;minutes 67;minutes 89;");
    }

    /** "of any length" */
    static void p05ANumberOfAnyLengthIsOutOfItsRange() {
        badScript(2, "minutes ^4294967297;");
        badScript(2, "minutes ^18446744073709551617;");
        badScript(2, "minutes ^2147483648;");
        badScript(2, "minutes ^" + "9".repeat(600) + ";");
        badScript(2, "minutes ^1" + "0".repeat(600) + ";");
        badScript(2, "wind 0 ^10000000000000000000000000000000;");
        badSetup(2, "line ^4294967296 3 6;wind 1;");
    }

    /** "leading zeros are allowed" */
    static void p05LeadingZerosAreAllowed() {
        ClothesLine line = new ClothesLine();
        DUE.is("minutes 007", Due.run(line, "minutes 007;"), 1);
        DUE.is("600 zeros", Due.run(line, "minutes " + "0".repeat(600) + "200;"), 1);
        DUE.is("minute", line.minute(), 25 + 7 + 200);
        goodScript("wind 000 000;take 00;");
        goodSetup("line 00008 003 0006;wind 000000000000000000000000005;");
        badScript(2, "minutes ^000;");
        badScript(2, "minutes ^00201;");
    }

    /** "Spaces (byte 32) and line feeds (byte 10) may stand before, between and after tokens." */
    static void p05SpacesAndLineFeedsAnywhere() {
        goodScript("\n \nminutes\n7\n;\n");
        goodScript("  minutes  7  ;  minutes \n 8 \n ; \n ");
        goodSetup("\n line \n 8\n3\n6\n;\nwind\n1\n0\n;\n");
    }

    static void p05TokensNeedNoSpaceBetween() {
        goodScript("minutes7;wind0 5;take0;");
        goodSetup("line8 3 6;wind1 0;minutes7;");
    }

    // ---- syntax

    private static String[] tokensOf(String command) {
        return command.split(" ");
    }

    private static String firstTokens(String[] tokens, int count) {
        StringBuilder text = new StringBuilder();
        for (int i = 0; i < count; i++) {
            text.append(tokens[i]).append(' ');
        }
        return text.toString();
    }

    /** "the grammar does not allow the token at this place": another token at each place of each command */
    static void p05ATokenThatTheGrammarDoesNotAllow() {
        for (String command : COMMANDS) {
            goodScript(command);
            String[] tokens = tokensOf(command);
            for (int place = 1; place < tokens.length; place++) {
                String before = firstTokens(tokens, place);
                badScript(1, before + "^take 0;");
                badScript(1, before + "^x 0;");
                badScript(1, before + (tokens[place].equals(";") ? "^1 ;" : "^; 1;"));
            }
            badScript(1, command + "^;");
            badScript(1, command + "^1;");
        }
        badScript(1, "pick ^;");
        badScript(1, "pick ^pick;");
        badScript(1, "pick 0 ^0;");
    }

    static void p05ATokenThatASetupDoesNotAllow() {
        String[] tokens = tokensOf("line 8 3 6 ; wind 1");
        for (int place = 0; place < tokens.length; place++) {
            String before = firstTokens(tokens, place);
            badSetup(1, before + "^x 1;");
            badSetup(1, before + "^garment 1 1 1 1;");
            badSetup(1, before + (tokens[place].equals(";") ? "^1 ;" : "^;"));
            if (!tokens[place].matches("[0-9]+")) {
                badSetup(1, before + "^7;");
            }
        }
        badSetup(1, "line 8 3 6;wind 1 ^x;");
        badSetup(1, "line 8 3 6;wind 1 ^wind;");
        badSetup(1, "line 8 3 6;^line 8 3 6;");
        badSetup(1, "^wind 1;line 8 3 6;");
    }

    static void p05ASetupHasOneLineAndAScriptHasNone() {
        badSetup(1, HEAD + "^line 8 3 6;");
        badSetup(1, HEAD + "take ^line;");
        badScript(1, "^line 8 3 6;");
        badScript(1, "minutes 1;^line 8 3 6;wind 1;");
    }

    static void p05ASemicolonAloneIsNoCommand() {
        badScript(1, "^;");
        badScript(1, "minutes 1;^;");
        badSetup(1, HEAD + "^;");
        badSetup(1, "^;" + HEAD);
    }

    /** "or the text ends where more is required" */
    static void p05TheTextEndsWhereMoreIsRequired() {
        for (String command : COMMANDS) {
            String[] tokens = tokensOf(command);
            for (int place = 1; place < tokens.length; place++) {
                badScript(1, firstTokens(tokens, place) + "^");
                badScript(1, "minutes 1;" + firstTokens(tokens, place).trim() + "^");
                badSetup(1, HEAD + "garment 1 1 9 9;".repeat(4) + firstTokens(tokens, place) + "^");
            }
        }
        badScript(1, "pick^");
        badScript(1, "pick 0^");
        String[] head = tokensOf("line 8 3 6 ; wind 1 0 3");
        for (int place = 0; place <= head.length; place++) {
            badSetup(1, firstTokens(head, place) + "^");
            badSetup(1, firstTokens(head, place).trim() + "^");
        }
    }

    // ---- ranges

    /** "PEGS ... are 0 to 30 in "line""; "SHADOW is the shadow width", 0 to 24; winds from 0 to 5 */
    static void p05TheNumbersOfASetup() {
        rangeInSetup("line ", 0, 30, " 3 6;wind 1;");
        rangeInSetup("line 8 ", 0, 30, " 6;wind 1;");
        rangeInSetup("line 8 3 ", 0, 24, ";wind 1;");
        rangeInSetup("line 8 3 6;wind ", 0, 5, ";");
        rangeInSetup("line 8 3 6;wind 1 ", 0, 5, " 1;");
        rangeInSetup("line 8 3 6;wind 1 1 1 1 1 1 1 ", 0, 5, ";");
    }

    /** WIDTH 1 to 6, WEIGHT 1 to 99, CAPACITY 1 to 999 */
    static void p05TheNumbersOfGarment() {
        range(ClothesLine::new, "garment ", 1, 6, " 1 1 1;");
        range(ClothesLine::new, "garment 1 ", 1, 99, " 1 1;");
        range(ClothesLine::new, "garment 1 1 ", 1, 999, " 1;");
    }

    /** "WATER is 0 to the CAPACITY before it" */
    static void p05WaterIs0ToTheCapacityBeforeIt() {
        range(ClothesLine::new, "garment 1 1 1 ", 0, 1, ";");
        range(ClothesLine::new, "garment 1 1 17 ", 0, 17, ";");
        range(ClothesLine::new, "garment 1 1 999 ", 0, 999, ";");
        badScript(2, "garment 1 1 500 500;garment 1 1 20 ^21;");
    }

    private static final Supplier<ClothesLine> TWO_IN_BASKET = lineOf("line 9 9 0;wind 0;garment 1 1 9 9;garment 1 1 9 9;");

    /** "SPOT is 0 to 23"; PEGS "0 to 4 in "hang"" */
    static void p05TheNumbersOfHang() {
        range(TWO_IN_BASKET, "hang ", 0, 1, " 5 1 0;");
        range(TWO_IN_BASKET, "hang 1 ", 0, 23, " 1 0;");
        good(TWO_IN_BASKET, false, "hang 1 5 0 4;");
        good(TWO_IN_BASKET, false, "hang 1 5 4 0;");
        bad(TWO_IN_BASKET, false, 2, "hang 1 5 ^5 0;");
        bad(TWO_IN_BASKET, false, 2, "hang 1 5 0 ^5;");
    }

    /** "GARMENT is the index of a garment" */
    static void p05TheGarmentOfTakePickAndWash() {
        Supplier<ClothesLine> onLine = lineOf("line 9 9 0;wind 0;garment 1 1 9 9;garment 1 1 9 9;hang 0 0 1 0;hang 1 1 1 0;");
        Supplier<ClothesLine> onGround = lineOf("line 9 9 0;wind 0;garment 1 20 9 9;garment 1 20 99 9;garment 1 20 99 9;"
                + "hang 1 0 1 0;hang 2 1 1 0;hang 0 2 0 1;shower 0 1 1;minutes 1;");
        range(onLine, "take ", 0, 1, ";");
        range(TWO_IN_BASKET, "wash ", 0, 1, ";");
        good(onGround, false, "pick 1;pick 2;");
        bad(onGround, false, 2, "pick ^3;");
    }

    static void p05TheNumbersOfShift() {
        Supplier<ClothesLine> onLine = lineOf("line 9 9 0;wind 0;garment 1 1 9 9;garment 1 1 9 9;hang 0 0 1 0;hang 1 1 1 0;");
        range(onLine, "shift ", 0, 1, " 9;");
        range(onLine, "take 1;shift 0 ", 0, 23, ";");
    }

    static void p05WithoutGarmentsNoIndexIsInRange() {
        for (String word : new String[] {"hang ^0 0 1 0;", "take ^0;", "pick ^0;", "wash ^0;", "shift ^0 0;"}) {
            bad(Scenes::empty, false, 2, word);
            badSetup(2, HEAD + word);
        }
    }

    static void p05AGarmentOfTheTextIsInRangeBehindItsSemicolon() {
        badScript(2, "wash ^4;garment 1 1 1 1;");
        goodScript("garment 1 1 1 1;wash 4;");
        badScript(2, "garment 1 1 1 1;wash ^5;");
        badSetup(2, HEAD + "garment 1 1 1 1;wash ^1;");
        goodSetup(HEAD + "garment 1 1 1 1;wash 0;");
    }

    /** START 0 to 9999, LENGTH 1 to 200, STRENGTH 1 to 20 */
    static void p05TheNumbersOfShower() {
        range(ClothesLine::new, "shower ", 0, 9999, " 1 1;");
        range(ClothesLine::new, "shower 0 ", 1, 200, " 1;");
        range(ClothesLine::new, "shower 0 1 ", 1, 20, ";");
    }

    /** MINUTE 0 to 9999 */
    static void p05TheNumbersOfSmoke() {
        range(ClothesLine::new, "smoke ", 0, 9999, " 9999;");
        range(ClothesLine::new, "smoke 0 ", 0, 9999, ";");
    }

    /** "the second MINUTE is not less than the first one" */
    static void p05TheSecondMinuteIsNotLessThanTheFirst() {
        range(ClothesLine::new, "smoke 77 ", 77, 9999, ";");
        range(ClothesLine::new, "smoke 9999 ", 9999, 9999, ";");
        badScript(2, "smoke 1 ^0;");
    }

    /** "INDEX is an index in the wind pattern"; WIND 0 to 5 */
    static void p05TheNumbersOfWind() {
        range(ClothesLine::new, "wind ", 0, 2, " 1;");
        range(lineOf("line 0 0 0;wind 4;"), "wind ", 0, 0, " 1;");
        range(lineOf("line 0 0 0;wind 1 2 3 4 5 4 3 2;"), "wind ", 0, 7, " 1;");
        range(ClothesLine::new, "wind 0 ", 0, 5, ";");
    }

    /** "COUNT is 1 to 200" */
    static void p05TheNumberOfMinutes() {
        range(ClothesLine::new, "minutes ", 1, 200, ";");
    }

    // ---- states

    /** "3 (state): the semicolon of a command whose method would throw an IllegalStateException" */
    static void p05HangWithAnObstacle() {
        bad(Scenes::fallen, false, 3, "hang 2 20 1 0^;");
        bad(Scenes::fallen, false, 3, "hang 0 20 1 0^;");
        badScript(3, "hang 3 23 1 0^;");
        badScript(3, "hang 3 7 1 0^;");
        badScript(3, "hang 3 4 1 0^;");
        badScript(3, "hang 3 5 0 0^;");
        badScript(3, "hang 3 5 3 2^;");
        badScript(3, "hang 3 5 0 2^;");
        badScript(3, "take 0;hang 3 2 4 0;hang 0 20 3 0^;");
        badScript(3, "garment 1 99 1 0;hang 4 0 4 0^;");
        goodScript("hang 3 22 1 0;");
        goodScript("hang 3 5 3 1;");
    }

    static void p05TakeOfWhatIsNotOnTheLine() {
        bad(Scenes::fallen, false, 3, "take 3^;");
        bad(Scenes::fallen, false, 3, "take 0^;");
        bad(Scenes::fallen, false, 3, "take 2;take 2 ^;");
        good(Scenes::fallen, false, "take 2;");
    }

    static void p05PickOfWhatIsNotOnTheGround() {
        bad(Scenes::fallen, false, 3, "pick 2^;");
        bad(Scenes::fallen, false, 3, "pick 3^;");
        bad(Scenes::fallen, false, 3, "pick 0;pick 0\n^;");
        good(Scenes::fallen, false, "pick 0;pick 1;");
    }

    static void p05WashOfWhatIsNotInTheBasket() {
        bad(Scenes::fallen, false, 3, "wash 2^;");
        bad(Scenes::fallen, false, 3, "wash 0^;");
        good(Scenes::fallen, false, "wash 3;wash 3;pick 0;wash 0;take 2;wash 2;");
    }

    static void p05ShiftThatIsNotPossible() {
        bad(Scenes::fallen, false, 3, "shift 3 9^;");
        bad(Scenes::fallen, false, 3, "shift 0 9^;");
        badScript(3, "shift 0 22^;");
        badScript(3, "shift 0 6^;");
        badScript(3, "shift 2 8^;");
        goodScript("shift 0 21;");
        goodScript("shift 0 5;shift 0 4;shift 0 4;");
    }

    static void p05TheStateIsThatBehindTheCommandsBefore() {
        badScript(3, "garment 1 5 200 0;hang 4 20 1 0;shower 25 10 20;minutes 10;take 4^;");
        badScript(3, "garment 1 5 200 0;hang 4 20 1 0;shower 25 10 20;minutes 7;pick 4^;");
        goodScript("garment 1 5 200 0;hang 4 20 1 0;shower 25 10 20;minutes 8;pick 4;");
        badSetup(3, HEAD + "garment 1 1 1 1;take 0^;");
    }

    // ---- limits

    /** "4 (limit): the 9th WIND of the pattern" */
    static void p05TheNinthWind() {
        goodSetup("line 8 3 6;wind 1 2 3 4 5 0 1 2;");
        badSetup(4, "line 8 3 6;wind 1 2 3 4 5 0 1 2 ^3;");
        badSetup(4, "line 8 3 6;wind 1 2 3 4 5 0 1 2 ^0 1 2;");
    }

    /** "the word "garment" while there are 10 garments" */
    static void p05TheEleventhGarment() {
        String one = "garment 1 1 1 1;";
        goodScript(one.repeat(6));
        badScript(4, one.repeat(6) + "^garment 1 1 1 1;");
        badScript(4, one.repeat(6) + "^garment;");
        badScript(4, one.repeat(6) + "^garment");
        bad(Scenes::full, false, 4, "^garment 7 0 0 1;");
        goodSetup(HEAD + one.repeat(10));
        badSetup(4, HEAD + one.repeat(10) + "^garment 1 1 1 1;");
    }

    /** "the word "shower" while there are 4 showers" */
    static void p05TheFifthShower() {
        String one = "shower 1 1 1;";
        goodScript(one.repeat(3));
        badScript(4, one.repeat(3) + "^shower 1 1 1;");
        badScript(4, one.repeat(3) + "^shower x");
        bad(Scenes::full, false, 4, "^shower 10000 0 0;");
        goodSetup(HEAD + one.repeat(4));
        badSetup(4, HEAD + one.repeat(4) + "^shower 1 1 1;");
    }

    /** "the word "smoke" while there are 4 smoke times" */
    static void p05TheFifthSmokeTime() {
        String one = "smoke 1 1;";
        goodScript(one.repeat(3));
        badScript(4, one.repeat(3) + "^smoke 1 1;");
        badScript(4, one.repeat(3) + "^smoke x");
        bad(Scenes::full, false, 4, "^smoke 2 1;");
        goodSetup(HEAD + one.repeat(4));
        badSetup(4, HEAD + one.repeat(4) + "^smoke 1 1;");
    }

    /** "or the first word of a 41st command" */
    static void p05TheFortyFirstCommand() {
        String forty = "wind 0 1;".repeat(40);
        goodScript(forty);
        goodSetup(HEAD + forty);
        goodScript(forty + " \n ");
        for (String word : WORDS) {
            badScript(4, forty + "^" + word + " 0 0 0 0;");
            badScript(4, forty + "^" + word);
            badSetup(4, HEAD + forty + " ^" + word + " 1 1 1 1;");
        }
    }

    // ---- several errors

    /** "A text is read from left to right up to the first token that has an error." */
    static void p05TheFirstTokenWithAnErrorCounts() {
        badScript(2, "take ^9;x;");
        badScript(3, "take 3^; x;");
        badScript(4, "shower 1 1 1;".repeat(3) + "^shower x");
        badScript(2, "minutes ^0 x;");
        badSetup(2, "line ^31 x");
        badScript(1, "minutes 5^\u00e9;take 9;");
    }

    /** "If a token has several errors, the smallest code is reported" */
    static void p05TheSmallestCodeOfAToken() {
        badSetup(2, "line 8 3 6;wind 1 2 3 4 5 0 1 2 ^6;");
        badSetup(1, "line 8 3 6;wind 1 2 3 4 5 0 1 2 ^x;");
        badSetup(1, "line 8 3 6;wind 1 2 3 4 5 0 1 2^");
        String forty = "wind 0 1;".repeat(40);
        badScript(1, forty + "^winds 0 1;");
        badScript(1, forty + "^line 0 1;");
        badScript(1, forty + "^;");
        badScript(1, forty + "^1");
        badScript(1, forty + "^*");
        badScript(1, "take 0 ^99999;");
        badScript(1, "garment 1 1 1 1;".repeat(6) + "^garments 1 1 1 1;");
    }

    // ---- positions

    /** "the index of the first byte of this token in the buffer" */
    static void p06TheFirstByteOfTheToken() {
        badScript(1, "^x");
        badScript(1, "  \n ^x");
        badScript(1, "minutes 1; minutes   ^minutes;");
        badScript(2, "minutes ^000201;");
        badScript(3, "take 3 \n ^;");
        badScript(1, " ".repeat(699) + "^x");
        badScript(2, " ".repeat(689) + "minutes ^201");
    }

    /** "Bytes that are 0 are skipped": they have no index. */
    static void p06BytesThatAre0HaveNoIndex() {
        ClothesLine line = new ClothesLine();
        line.feed(0x00200020, 0x00000078, 0, 0, 0);
        line.runScript();
        DUE.is("position", line.errorPosition(), 2);
    }

    /** "or the length of the text if the text ends too early" */
    static void p06TheLengthOfTheText() {
        badSetup(1, "^");
        badSetup(1, "  \n^");
        badScript(1, "minutes^");
        badScript(1, "minutes 1 \n ^");
        badScript(1, " ".repeat(693) + "minutes^");
        badSetup(1, HEAD + "minutes 1" + " ".repeat(600) + "^");
    }

    /** A longer text before must not be read behind the end of a shorter one. */
    static void p06NothingOfATextBefore() {
        ClothesLine line = new ClothesLine();
        Due.run(line, "minutesaaaa");
        Due.run(line, "minutes");
        DUE.is("letters behind the text", line.errorPosition(), 7);
        Due.run(line, "minutes 1999;");
        Due.run(line, "minutes 1");
        DUE.is("digits behind the text", line.errorCode() * 100 + line.errorPosition(), 109);
        Due.run(line, "          ");
        Due.run(line, "take 0");
        DUE.is("spaces behind the text", line.errorPosition(), 6);
        Due.run(line, "take 0;");
        Due.run(line, "hang 0");
        DUE.is("a semicolon behind the text", line.errorPosition(), 6);
    }
}
