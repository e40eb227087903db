import java.util.function.ObjIntConsumer;

/** Promises 7 to 14: time and weather. */
public final class WeatherTest {
    private static final int ALL = 0xFFFFFF;
    private static final Due DUE = new Due("WeatherTest");

    public static void main(String[] args) {
        DUE.everyTestOf(WeatherTest.class);
    }

    /** "Throws IllegalArgumentException if minute is out of range", 0 to 99999 */
    private static void refusesOtherMinutes(String call, ObjIntConsumer<ClothesLine> made) {
        for (int minute : new int[] {-1, 100000, -60, 100060, Integer.MIN_VALUE, Integer.MAX_VALUE}) {
            DUE.refused(call + " " + minute, Due.NO_ARGUMENT, Scenes::busy, line -> made.accept(line, minute));
        }
        DUE.changesNothing(call + " 0", Scenes::busy, line -> made.accept(line, 0));
        DUE.changesNothing(call + " 99999", Scenes::busy, line -> made.accept(line, 99999));
    }

    private static ClothesLine shadow(int width) {
        return Due.lineOf("line 0 0 " + width + ";wind 0;");
    }

    // ---- minute

    /** "Minutes are numbered from 0." */
    static void p07TheFirstMinuteIs0() {
        DUE.is("minute", Scenes.empty().minute(), 0);
    }

    /** "Then the minute number increases by 1." */
    static void p07AMinuteThatPassesIncreasesIt() {
        ClothesLine line = Scenes.empty();
        line.passMinutes(1);
        DUE.is("one", line.minute(), 1);
        line.passMinutes(200);
        DUE.is("two hundred more", line.minute(), 201);
        line.addGarment(1, 1, 1, 1);
        DUE.is("other changes take no time", line.minute(), 201);
    }

    /** "The present minute is the next one to pass.": rain in it is still to come. */
    static void p07ThePresentMinuteIsTheNextOneToPass() {
        ClothesLine line = Due.lineOf("line 9 9 24;wind 0;garment 1 1 99 0;hang 0 0 1 0;shower 7 1 5;minutes 7;");
        DUE.is("before", line.minute() * 100 + line.waterOf(0), 700);
        line.passMinutes(1);
        DUE.is("after", line.minute() * 100 + line.waterOf(0), 805);
    }

    /** "Returns 0 or more.": the present minute has no end, though minutes asked for end at 99999. */
    static void p07BeyondTheMinutesThatCanBeAskedFor() {
        ClothesLine line = Due.lineOf("line 9 9 2;wind 5 0;garment 1 1 999 999;hang 0 0 0 3;");
        for (int i = 0; i < 3; i++) {
            Due.run(line, "minutes 200;".repeat(40));
        }
        for (int i = 0; i < 382; i++) {
            line.passMinutes(200);
        }
        DUE.is("minute", line.minute(), 100400);
        line.writeLine();
        DUE.is("the shadow begins at the spot 10", line.outputByte(9) * 10000 + line.outputByte(10) * 100 + line.outputByte(11),
                '*' * 10000 + '-' * 100 + '-');
        DUE.is("behind it", line.outputByte(12), '*');
        DUE.is("no rain", line.minutesToRain(), -1);
    }

    // ---- shadow and changes

    /** "the shadow width (0 to 24)" */
    static void p08From0To24() {
        DUE.is("0", shadow(0).shadowWidth(), 0);
        DUE.is("1", shadow(1).shadowWidth(), 1);
        DUE.is("24", shadow(24).shadowWidth(), 24);
    }

    /** "Returns 0 to 8": 0 at first, and 8 after more changes than can be undone */
    static void p09From0To8() {
        ClothesLine line = new ClothesLine();
        DUE.is("new", line.undoCount(), 0);
        for (int i = 1; i <= 18; i++) {
            line.passMinutes(1);
            DUE.is("after " + i, line.undoCount(), Math.min(i, 8));
        }
    }

    static void p09UndoTakesOneAway() {
        ClothesLine line = new ClothesLine();
        for (int i = 0; i < 9; i++) {
            line.passMinutes(1);
        }
        for (int left = 7; left >= 0; left--) {
            line.undo();
            DUE.is("undoCount", line.undoCount(), left);
        }
    }

    static void p09WhatIsNoChangeDoesNotCount() {
        ClothesLine line = new ClothesLine();
        line.passMinutes(1);
        line.save(0);
        line.writeLine();
        line.garmentsAtRisk();
        line.bestSpot(3);
        line.hangObstacle(3, 22, 1, 0);
        Due.run(line, "minutes 1;x");
        Due.load(line, "x");
        DUE.throwsIt("passMinutes 0", Due.NO_ARGUMENT, () -> line.passMinutes(0));
        DUE.is("undoCount", line.undoCount(), 1);
    }

    // ---- wind

    /** "In the minute m, the wind is the one whose index is m / 60 (rounded down) modulo the length" */
    static void p10TheIndexIsM60ModuloTheLength() {
        int[] winds = {1, 0, 3};
        for (int hour = 0; hour < 100; hour++) {
            ClothesLine line = new ClothesLine();
            DUE.is("begin of hour " + hour, line.windIn(hour * 60), winds[hour % 3]);
            DUE.is("end of hour " + hour, line.windIn(hour * 60 + 59), winds[hour % 3]);
        }
    }

    /** "a sequence of 1 to 8 winds" */
    static void p10OneWindAndEightWinds() {
        ClothesLine one = Due.lineOf("line 0 0 0;wind 4;");
        DUE.is("one: 0", one.windIn(0), 4);
        DUE.is("one: 60", one.windIn(60), 4);
        DUE.is("one: 99999", one.windIn(99999), 4);
        ClothesLine eight = Due.lineOf("line 0 0 0;wind 1 2 3 4 5 4 0 2;");
        DUE.is("eight: 359", eight.windIn(359), 4);
        DUE.is("eight: 360", eight.windIn(360), 0);
        DUE.is("eight: 479", eight.windIn(479), 2);
        DUE.is("eight: around at 480", eight.windIn(480), 1);
        DUE.is("eight: 99999", eight.windIn(99999), 3);
    }

    /** "winds from 0 to 5" */
    static void p10From0To5() {
        ClothesLine line = Due.lineOf("line 0 0 0;wind 0 5;");
        DUE.is("0", line.windIn(59), 0);
        DUE.is("5", line.windIn(60), 5);
        DUE.is("0 again", line.windIn(120), 0);
    }

    static void p10From0To99999() {
        DUE.is("0", new ClothesLine().windIn(0), 1);
        DUE.is("99999", new ClothesLine().windIn(99999), 0);
        refusesOtherMinutes("windIn", ClothesLine::windIn);
    }

    // ---- rain

    /** "the minute is one of its length minutes from the start on" */
    static void p11TheLengthMinutesFromTheStartOn() {
        ClothesLine line = Due.lineOf("line 0 0 0;wind 0;shower 10 5 3;shower 100 1 7;shower 0 1 1;");
        DUE.is("before", line.rainIn(9), 0);
        DUE.is("start", line.rainIn(10), 3);
        DUE.is("last", line.rainIn(14), 3);
        DUE.is("after", line.rainIn(15), 0);
        DUE.is("before one minute", line.rainIn(99), 0);
        DUE.is("one minute", line.rainIn(100), 7);
        DUE.is("after one minute", line.rainIn(101), 0);
        DUE.is("from 0", line.rainIn(0), 1);
        DUE.is("from 0: after", line.rainIn(1), 0);
    }

    /** START up to 9999, LENGTH up to 200 */
    static void p11TheLatestAndLongestShower() {
        ClothesLine line = Due.lineOf("line 0 0 0;wind 0;shower 9999 200 20;");
        DUE.is("before", line.rainIn(9998), 0);
        DUE.is("start", line.rainIn(9999), 20);
        DUE.is("last", line.rainIn(10198), 20);
        DUE.is("after", line.rainIn(10199), 0);
        DUE.is("99999", line.rainIn(99999), 0);
    }

    /** "the sum of the strengths of all showers that are on" */
    static void p11TheSumOfAllShowersThatAreOn() {
        ClothesLine line = Due.lineOf("line 0 0 0;wind 0;shower 10 5 3;shower 14 2 20;shower 14 1 2;shower 15 9 1;");
        DUE.is("one", line.rainIn(13), 3);
        DUE.is("three", line.rainIn(14), 25);
        DUE.is("two", line.rainIn(15), 21);
        DUE.is("the last", line.rainIn(16), 1);
        ClothesLine four = Due.lineOf("line 0 0 0;wind 0;" + "shower 7 1 20;".repeat(4));
        DUE.is("four", four.rainIn(7), 80);
    }

    /** "0 if it does not rain" */
    static void p11NoShowerNoRain() {
        DUE.is("0", Scenes.empty().rainIn(0), 0);
        DUE.is("99999", Scenes.empty().rainIn(99999), 0);
    }

    static void p11RainThatIsOverCanBeAskedFor() {
        ClothesLine line = Due.lineOf("line 0 0 0;wind 0;shower 10 5 3;minutes 200;");
        DUE.is("rain", line.rainIn(12), 3);
    }

    static void p11From0To99999() {
        refusesOtherMinutes("rainIn", ClothesLine::rainIn);
    }

    // ---- sun

    /** "the shadow begins at the spot m / 30 (rounded down)" */
    static void p12TheShadowBeginsAtM30() {
        ClothesLine line = shadow(6);
        DUE.is("0", line.sunnySpots(0), ALL & ~0x3F);
        DUE.is("29", line.sunnySpots(29), ALL & ~0x3F);
        DUE.is("30", line.sunnySpots(30), ALL & ~(0x3F << 1));
        DUE.is("59", line.sunnySpots(59), ALL & ~(0x3F << 1));
        DUE.is("60", line.sunnySpots(60), ALL & ~(0x3F << 2));
        DUE.is("540: the last before the end", line.sunnySpots(540), ALL & ~(0x3F << 18));
    }

    /** "modulo 24" */
    static void p12TheShadowBeginsAgainAfterADay() {
        ClothesLine line = shadow(6);
        DUE.is("719", line.sunnySpots(719), 0x7FFFE0);
        DUE.is("720", line.sunnySpots(720), ALL & ~0x3F);
        DUE.is("749", line.sunnySpots(749), ALL & ~0x3F);
        DUE.is("750", line.sunnySpots(750), ALL & ~(0x3F << 1));
        DUE.is("1440", line.sunnySpots(1440), ALL & ~0x3F);
        DUE.is("99999", line.sunnySpots(99999), 0x1FFFF8);
    }

    /** "behind spot 23 it goes on at spot 0" */
    static void p12BehindSpot23ItGoesOnAtSpot0() {
        ClothesLine line = shadow(6);
        DUE.is("570: one spot", line.sunnySpots(570), 0x7FFFE);
        DUE.is("690: five spots", line.sunnySpots(690), 0x7FFFE0);
        DUE.is("two at 23", shadow(2).sunnySpots(690), 0x7FFFFE);
        DUE.is("one at 23", shadow(1).sunnySpots(690), 0x7FFFFF);
        DUE.is("one at 0", shadow(1).sunnySpots(720), 0xFFFFFE);
        DUE.is("two at 22", shadow(2).sunnySpots(660), 0x3FFFFF);
    }

    /** "covers as many spots as the shadow width (0 to 24) tells" */
    static void p12TheShadowCoversNoneToAll() {
        for (int minute = 0; minute < 1440; minute += 30) {
            int begin = minute / 30 % 24;
            DUE.is("none in " + minute, shadow(0).sunnySpots(minute), ALL);
            DUE.is("one in " + minute, shadow(1).sunnySpots(minute), ALL & ~(1 << begin));
            DUE.is("all but one in " + minute, shadow(23).sunnySpots(minute), 1 << (begin + 23) % 24);
            DUE.is("all in " + minute, shadow(24).sunnySpots(minute), 0);
        }
    }

    /** "and it does not rain" */
    static void p12InTheRainNoSpotIsSunny() {
        ClothesLine line = Due.lineOf("line 0 0 6;wind 0;shower 100 20 1;");
        DUE.is("before", line.sunnySpots(99), ALL & ~(0x3F << 3));
        DUE.is("first", line.sunnySpots(100), 0);
        DUE.is("last", line.sunnySpots(119), 0);
        DUE.is("after", line.sunnySpots(120), ALL & ~(0x3F << 4));
    }

    static void p12From0To99999() {
        refusesOtherMinutes("sunnySpots", ClothesLine::sunnySpots);
    }

    // ---- smoke

    /** "In the minutes of a smoke time, both included" */
    static void p13TheFirstAndTheLastMinuteAreIncluded() {
        ClothesLine line = Due.lineOf("line 0 0 0;wind 2;smoke 30 70;smoke 120 120;smoke 0 0;");
        DUE.is("before", line.smokySpots(29), 0);
        DUE.is("first", line.smokySpots(30), 0xFF);
        DUE.is("last", line.smokySpots(70), 0xFF);
        DUE.is("after", line.smokySpots(71), 0);
        DUE.is("before one minute", line.smokySpots(119), 0);
        DUE.is("one minute", line.smokySpots(120), 0xFF);
        DUE.is("after one minute", line.smokySpots(121), 0);
        DUE.is("minute 0", line.smokySpots(0), 0xFF);
        DUE.is("minute 1", line.smokySpots(1), 0);
    }

    /** "a first and a last minute (0 to 9999 ...)" */
    static void p13TheLatestSmoke() {
        ClothesLine line = Due.lineOf("line 0 0 0;wind 1;smoke 9999 9999;");
        DUE.is("9998", line.smokySpots(9998), 0);
        DUE.is("9999", line.smokySpots(9999), 0xF);
        DUE.is("10000", line.smokySpots(10000), 0);
        DUE.is("99999", line.smokySpots(99999), 0);
    }

    /** "the spots whose numbers are less than 4 times the wind" */
    static void p13TheSpotsLessThan4TimesTheWind() {
        for (int wind = 0; wind <= 5; wind++) {
            ClothesLine line = Due.lineOf("line 0 0 0;wind " + wind + ";smoke 0 10;");
            DUE.is("wind " + wind, line.smokySpots(5), (1 << 4 * wind) - 1);
        }
        ClothesLine turns = Due.lineOf("line 0 0 0;wind 1 0 5;smoke 0 200;");
        DUE.is("59", turns.smokySpots(59), 0xF);
        DUE.is("60", turns.smokySpots(60), 0);
        DUE.is("120", turns.smokySpots(120), 0xFFFFF);
        DUE.is("180: around", turns.smokySpots(180), 0xF);
    }

    static void p13SeveralSmokeTimes() {
        ClothesLine line = Due.lineOf("line 0 0 0;wind 1;smoke 50 60;smoke 10 20;smoke 15 30;smoke 90 90;");
        DUE.is("9", line.smokySpots(9), 0);
        DUE.is("two at once reach no farther", line.smokySpots(15), 0xF);
        DUE.is("30", line.smokySpots(30), 0xF);
        DUE.is("31", line.smokySpots(31), 0);
        DUE.is("the first", line.smokySpots(50), 0xF);
        DUE.is("the fourth", line.smokySpots(90), 0xF);
    }

    static void p13SmokeInTheRain() {
        DUE.is("smoke", Due.lineOf("line 0 0 0;wind 1;smoke 5 5;shower 5 1 20;").smokySpots(5), 0xF);
    }

    static void p13NoSmokeTimeNoSmoke() {
        DUE.is("smoke", Due.lineOf("line 0 0 0;wind 5;").smokySpots(0), 0);
    }

    static void p13From0To99999() {
        refusesOtherMinutes("smokySpots", ClothesLine::smokySpots);
    }

    // ---- minutes to rain

    /** "before the first minute, from the present one on, in which it rains" */
    static void p14FromThePresentMinuteOn() {
        ClothesLine line = Due.lineOf("line 0 0 0;wind 0;shower 20 5 1;");
        DUE.is("in 20", line.minutesToRain(), 20);
        line.passMinutes(19);
        DUE.is("in 1", line.minutesToRain(), 1);
        line.passMinutes(1);
        DUE.is("it rains", line.minutesToRain(), 0);
        line.passMinutes(4);
        DUE.is("the last minute of the rain", line.minutesToRain(), 0);
        line.passMinutes(1);
        DUE.is("it is over", line.minutesToRain(), -1);
    }

    static void p14TheFirstOfSeveralShowers() {
        ClothesLine line = Due.lineOf("line 0 0 0;wind 0;shower 50 10 1;shower 20 5 1;shower 30 1 1;shower 9999 1 1;");
        DUE.is("the second shower", line.minutesToRain(), 20);
        line.passMinutes(25);
        DUE.is("the third", line.minutesToRain(), 5);
        line.passMinutes(6);
        DUE.is("the first", line.minutesToRain(), 19);
        line.passMinutes(29);
        DUE.is("the fourth", line.minutesToRain(), 9999 - 60);
    }

    /** "NONE if it does not rain in any of them" */
    static void p14NoneIfItDoesNotRain() {
        DUE.is("no shower", Scenes.empty().minutesToRain(), -1);
        DUE.is("all showers over", Due.lineOf("line 0 0 0;wind 0;" + "shower 0 1 1;".repeat(4) + "minutes 1;").minutesToRain(),
                -1);
    }

    static void p14TheLatestRain() {
        ClothesLine line = Due.lineOf("line 0 0 0;wind 0;shower 9999 200 1;");
        DUE.is("from minute 0", line.minutesToRain(), 9999);
        Due.run(line, "minutes 200;".repeat(40));
        Due.run(line, "minutes 200;".repeat(10) + "minutes 198;");
        DUE.is("the last minute", line.minute() * 10 + line.minutesToRain(), 101980);
        line.passMinutes(1);
        DUE.is("over", line.minutesToRain(), -1);
    }
}
