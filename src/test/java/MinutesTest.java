/** Promise 60: minutes, and what one minute does. */
public final class MinutesTest {
    private static final Due DUE = new Due("MinutesTest");

    public static void main(String[] args) {
        DUE.everyTestOf(MinutesTest.class);
    }

    // ---- passMinutes

    /** "minutes: 1 to 200" */
    static void p60From1To200() {
        ClothesLine line = new ClothesLine();
        line.passMinutes(1);
        DUE.is("1", line.minute(), 26);
        line.passMinutes(200);
        DUE.is("200", line.minute(), 226);
        DUE.is("undoCount", line.undoCount(), 2);
    }

    /** "Throws IllegalArgumentException if minutes is out of range" */
    static void p60OutOfRange() {
        for (int minutes : new int[] {0, 201, -1, Integer.MIN_VALUE, Integer.MAX_VALUE}) {
            DUE.refused("passMinutes " + minutes, Due.NO_ARGUMENT, Scenes::busy, line -> line.passMinutes(minutes));
        }
    }

    /** "Returns the number of garments that fell in them." */
    static void p60AnswersHowManyFell() {
        ClothesLine line = Due.lineOf("line 9 9 0;wind 0;garment 1 9 990 0;garment 1 9 990 0;garment 1 19 990 0;"
                + "hang 0 0 1 0;hang 1 1 0 1;hang 2 2 1 0;shower 0 30 20;");
        DUE.is("one at once", line.passMinutes(1), 1);
        DUE.is("two in different minutes", line.passMinutes(30), 2);
        DUE.is("none is left", line.passMinutes(30), 0);
        DUE.is("no garment", Scenes.empty().passMinutes(200), 0);
        DUE.is("none falls", new ClothesLine().passMinutes(200), 0);
    }

    static void p60AllTenFallInAMinute() {
        ClothesLine line = Due.lineOf("line 30 0 0;wind 0;" + "garment 2 20 99 9;".repeat(10));
        for (int garment = 0; garment < 10; garment++) {
            line.hang(garment, 2 * garment, 1, 0);
        }
        line.addShower(0, 1, 1);
        DUE.is("ten", line.passMinutes(1), 10);
    }

    /** "When the present minute passes ... Then the minute number increases by 1.": the minutes one by one */
    static void p60ManyMinutesAreOneMinuteManyTimes() {
        ClothesLine once = new ClothesLine();
        ClothesLine manyTimes = new ClothesLine();
        once.passMinutes(100);
        for (int i = 0; i < 100; i++) {
            manyTimes.passMinutes(1);
        }
        for (int garment = 0; garment < 4; garment++) {
            DUE.is("water " + garment, once.waterOf(garment), manyTimes.waterOf(garment));
            DUE.is("smell " + garment, once.smellOf(garment), manyTimes.smellOf(garment));
        }
        DUE.is("minute", once.minute(), manyTimes.minute());
    }

    /** "the following happens to each garment on the line" */
    static void p60OffTheLineNothingHappens() {
        ClothesLine line = Due.lineOf("line 9 9 0;wind 5;garment 1 20 99 9;garment 1 1 99 50;hang 0 0 1 0;shower 0 9 1;"
                + "smoke 0 99;");
        line.passMinutes(1);
        DUE.is("on the ground", line.stateOf(0) * 1000 + line.waterOf(0) * 10 + line.smellOf(0), 2101);
        line.passMinutes(90);
        DUE.is("on the ground: water", line.waterOf(0), 10);
        DUE.is("on the ground: smell", line.smellOf(0), 1);
        DUE.is("in the basket: water", line.waterOf(1), 50);
        DUE.is("in the basket: smell", line.smellOf(1), 0);
    }

    // ---- step 1: water

    private static int waterAfterOne(String setup) {
        ClothesLine line = Due.lineOf(setup);
        line.passMinutes(1);
        return line.waterOf(0);
    }

    /** "If it rains, the water increases by the rain multiplied by the width" */
    static void p60RainTimesTheWidth() {
        DUE.is("1 on 1", waterAfterOne("line 0 9 0;wind 0;garment 1 1 999 7;hang 0 0 0 4;shower 0 1 1;"), 8);
        DUE.is("3 on 4", waterAfterOne("line 0 9 0;wind 0;garment 4 1 999 7;hang 0 0 0 4;shower 0 1 3;"), 19);
        DUE.is("80 on 6", waterAfterOne("line 0 9 0;wind 0;garment 6 1 999 7;hang 0 0 0 4;" + "shower 0 1 20;".repeat(4)), 487);
    }

    /** "but at most to the capacity" */
    static void p60RainAtMostToTheCapacity() {
        DUE.is("just to it", waterAfterOne("line 0 9 0;wind 0;garment 4 1 19 7;hang 0 0 0 4;shower 0 1 3;"), 19);
        DUE.is("less than it", waterAfterOne("line 0 9 0;wind 0;garment 4 1 20 7;hang 0 0 0 4;shower 0 1 3;"), 19);
        DUE.is("more than it", waterAfterOne("line 0 9 0;wind 0;garment 4 1 18 7;hang 0 0 0 4;shower 0 1 3;"), 18);
        DUE.is("full before", waterAfterOne("line 0 9 0;wind 0;garment 4 1 18 18;hang 0 0 0 4;shower 0 1 3;"), 18);
    }

    /** "If it does not rain": in the rain neither sun nor wind dries */
    static void p60InTheRainNothingDries() {
        DUE.is("rain", waterAfterOne("line 0 9 0;wind 5;garment 1 1 99 50;hang 0 0 0 4;shower 0 1 1;"), 51);
        DUE.is("no rain", waterAfterOne("line 0 9 0;wind 5;garment 1 1 99 50;hang 0 0 0 4;shower 1 1 1;"), 44);
    }

    /** "the water decreases by the number of sunny spots that the garment occupies" */
    static void p60TheSunnySpotsThatItOccupies() {
        DUE.is("all six", waterAfterOne("line 0 9 0;wind 0;garment 6 1 99 50;hang 0 18 0 4;"), 44);
        DUE.is("one of six", waterAfterOne("line 0 9 5;wind 0;garment 6 1 99 50;hang 0 0 0 4;"), 49);
        DUE.is("five of six", waterAfterOne("line 0 9 1;wind 0;garment 6 1 99 50;hang 0 0 0 4;"), 45);
        DUE.is("none of six", waterAfterOne("line 0 9 6;wind 0;garment 6 1 99 50;hang 0 0 0 4;"), 50);
    }

    static void p60TheSunOfEachMinute() {
        ClothesLine line = Due.lineOf("line 0 9 1;wind 0;garment 1 1 99 50;hang 0 1 0 4;minutes 29;");
        DUE.is("29 minutes of sun", line.waterOf(0), 21);
        line.passMinutes(1);
        DUE.is("the last one before the shadow", line.waterOf(0), 20);
        line.passMinutes(30);
        DUE.is("in the shadow", line.waterOf(0), 20);
        line.passMinutes(1);
        DUE.is("behind the shadow", line.waterOf(0), 19);
    }

    /** "behind spot 23 it goes on at spot 0" */
    static void p60TheShadowAroundTheEnd() {
        ClothesLine line = Due.lineOf("line 0 9 2;wind 0;garment 1 1 99 50;garment 2 1 99 50;");
        for (int i = 0; i < 3; i++) {
            line.passMinutes(200);
        }
        line.passMinutes(90);
        line.hang(0, 0, 0, 1);
        line.hang(1, 22, 0, 1);
        line.passMinutes(1);
        DUE.is("0 in the shadow", line.waterOf(0), 50);
        DUE.is("22 in the sun, 23 in the shadow", line.waterOf(1), 49);
        line.passMinutes(30);
        DUE.is("a minute later at 0 and 1", line.waterOf(0) * 100 + line.waterOf(1), 5000 + 49 - 29 - 2);
    }

    /** "and then by the wind" */
    static void p60TheWindOfEachMinute() {
        ClothesLine line = Due.lineOf("line 0 9 24;wind 1 5;garment 6 1 999 500;hang 0 0 0 4;minutes 59;");
        DUE.is("59 minutes of wind 1", line.waterOf(0), 441);
        line.passMinutes(1);
        DUE.is("the last one", line.waterOf(0), 440);
        line.passMinutes(1);
        DUE.is("then wind 5", line.waterOf(0), 435);
        line.passMinutes(60);
        DUE.is("and around to wind 1", line.waterOf(0), 435 - 59 * 5 - 1);
    }

    /** "but in both cases not below 0" */
    static void p60NotBelow0() {
        DUE.is("the sun", waterAfterOne("line 0 9 0;wind 0;garment 6 1 99 5;hang 0 0 0 4;"), 0);
        DUE.is("the sun, just all", waterAfterOne("line 0 9 0;wind 0;garment 6 1 99 6;hang 0 0 0 4;"), 0);
        DUE.is("the sun, all but one", waterAfterOne("line 0 9 0;wind 0;garment 6 1 99 7;hang 0 0 0 4;"), 1);
        DUE.is("the wind", waterAfterOne("line 0 9 24;wind 5;garment 6 1 99 4;hang 0 0 0 4;"), 0);
        DUE.is("the wind, just all", waterAfterOne("line 0 9 24;wind 5;garment 6 1 99 5;hang 0 0 0 4;"), 0);
        DUE.is("the wind, all but one", waterAfterOne("line 0 9 24;wind 5;garment 6 1 99 6;hang 0 0 0 4;"), 1);
        DUE.is("both", waterAfterOne("line 0 9 0;wind 5;garment 6 1 99 10;hang 0 0 0 4;"), 0);
        DUE.is("dry before", waterAfterOne("line 0 9 0;wind 5;garment 6 1 99 0;hang 0 0 0 4;"), 0);
    }

    // ---- step 2: smell

    private static int smellAfter(int minutes, String setup) {
        ClothesLine line = Due.lineOf(setup);
        line.passMinutes(minutes);
        return line.smellOf(0);
    }

    /** "If smoke reaches at least one of its spots, the smell increases by 1" */
    static void p60SmokeAtOneSpotIsEnough() {
        String begin = "line 9 9 0;wind 2;garment 3 1 9 0;smoke 0 9;";
        DUE.is("all three spots", smellAfter(10, begin + "hang 0 5 1 0;"), 10);
        DUE.is("two spots", smellAfter(10, begin + "hang 0 6 1 0;"), 10);
        DUE.is("one spot", smellAfter(10, begin + "hang 0 7 1 0;"), 10);
        DUE.is("none", smellAfter(10, begin + "hang 0 8 1 0;"), 0);
    }

    static void p60SmokeOfTwoSmokeTimesIsSmokeOnce() {
        DUE.is("smell", smellAfter(10, "line 9 9 0;wind 2;garment 3 1 9 0;smoke 0 9;smoke 0 9;hang 0 0 1 0;"), 10);
    }

    /** "In the minutes of a smoke time, both included" */
    static void p60TheFirstAndTheLastMinuteOfTheSmoke() {
        String setup = "line 9 9 0;wind 1;garment 1 1 9 0;smoke 5 7;hang 0 0 1 0;";
        DUE.is("before", smellAfter(5, setup), 0);
        DUE.is("first", smellAfter(6, setup), 1);
        DUE.is("last", smellAfter(8, setup), 3);
        DUE.is("after", smellAfter(9, setup), 2);
    }

    /** "but at most to 99" */
    static void p60SmellAtMost99() {
        String setup = "line 9 9 0;wind 5;garment 1 1 9 0;smoke 0 300;hang 0 19 1 0;";
        DUE.is("98", smellAfter(98, setup), 98);
        DUE.is("99", smellAfter(99, setup), 99);
        DUE.is("100", smellAfter(100, setup), 99);
        DUE.is("200", smellAfter(200, setup), 99);
    }

    /** "Otherwise, if the wind is not 0, the smell decreases by 1, but not below 0." */
    static void p60TheWindTakesTheSmell() {
        String setup = "line 9 9 0;wind 5;garment 1 1 9 0;smoke 0 9;hang 0 0 1 0;";
        DUE.is("smell", smellAfter(10, setup), 10);
        DUE.is("one less in a minute, whatever the wind", smellAfter(11, setup), 9);
        DUE.is("1", smellAfter(19, setup), 1);
        DUE.is("0", smellAfter(20, setup), 0);
        DUE.is("not below 0", smellAfter(21, setup), 0);
    }

    static void p60TheWindTakesTheSmellOutsideTheSmoke() {
        ClothesLine line = Due.lineOf("line 9 9 0;wind 1;garment 1 1 9 0;smoke 0 99;hang 0 3 1 0;minutes 9;shift 0 4;");
        line.passMinutes(1);
        DUE.is("the smoke does not reach it", line.smellOf(0), 8);
    }

    static void p60WithoutWindTheSmellStays() {
        ClothesLine line = Due.lineOf("line 9 9 0;wind 1 0;garment 1 1 9 0;smoke 0 70;hang 0 0 1 0;minutes 60;");
        DUE.is("smell", line.smellOf(0), 60);
        line.passMinutes(60);
        DUE.is("no smoke without wind, and no less", line.smellOf(0), 60);
        line.passMinutes(1);
        DUE.is("wind again", line.smellOf(0), 59);
    }

    static void p60SmellInTheRain() {
        String setup = "line 9 9 0;wind 1;garment 1 1 9 0;smoke 0 4;hang 0 0 1 0;shower 0 90 1;";
        DUE.is("smoke", smellAfter(5, setup), 5);
        DUE.is("wind", smellAfter(7, setup), 3);
    }

    // ---- step 3: falls

    /** "If the weight is greater than the hold, the garment falls" */
    static void p60OnlyAGreaterWeightFalls() {
        ClothesLine line = Due.lineOf("line 9 9 0;wind 0;garment 1 1 300 180;hang 0 4 1 0;shower 0 9 19;");
        DUE.is("weight 20, hold 20", line.passMinutes(1) * 1000 + line.waterOf(0), 199);
        DUE.is("weight 20", line.weightOf(0), 20);
        DUE.is("weight 22, hold 20", line.passMinutes(1) * 1000 + line.weightOf(0), 1022);
        ClothesLine one = Due.lineOf("line 9 9 0;wind 0;garment 1 1 300 199;hang 0 4 1 0;shower 0 1 1;");
        DUE.is("weight 21, hold 20", one.passMinutes(1) * 1000 + one.weightOf(0), 1021);
        ClothesLine steel = Due.lineOf("line 9 9 0;wind 0;garment 1 26 300 199;hang 0 4 0 1;shower 0 1 1;");
        DUE.is("weight 46, hold 45", steel.passMinutes(1) * 1000 + steel.weightOf(0), 1046);
        ClothesLine held = Due.lineOf("line 9 9 0;wind 0;garment 1 25 300 199;hang 0 4 0 1;shower 0 1 1;");
        DUE.is("weight 45, hold 45", held.passMinutes(1) * 1000 + held.weightOf(0), 45);
    }

    /** "it is on the ground and dirty, and its pegs go back into the bag" */
    static void p60OnTheGroundAndDirty() {
        ClothesLine line = Due.lineOf("line 3 2 0;wind 0;garment 1 99 300 69;garment 1 1 9 0;hang 0 4 3 1;hang 1 5 0 1;"
                + "shower 0 1 1;");
        DUE.is("bag before", line.woodenLeft() * 10 + line.steelLeft(), 0);
        DUE.is("weight 106, hold 105", line.passMinutes(1), 1);
        DUE.is("state", line.stateOf(0), ClothesLine.GROUND);
        DUE.is("dirty", line.isDirty(0), true);
        DUE.is("falls", line.fallsOf(0), 1);
        DUE.is("spot", line.spotOf(0), -1);
        DUE.is("pegs", line.woodenOf(0) + line.steelOf(0) + line.holdOf(0), 0);
        DUE.is("bag", line.woodenLeft() * 10 + line.steelLeft(), 31);
        DUE.is("its spot is free", line.garmentAt(4), -1);
        DUE.is("the other hangs", line.stateOf(1), ClothesLine.LINE);
        DUE.is("the other is clean", line.isDirty(1), false);
    }

    /** The steps are done in their order: the water and the smell of its last minute are those of a garment that falls. */
    static void p60WaterAndSmellBeforeTheFall() {
        ClothesLine line = Due.lineOf("line 9 9 0;wind 1;garment 1 20 99 9;hang 0 0 1 0;shower 0 9 1;smoke 0 9;");
        DUE.is("it falls", line.passMinutes(1), 1);
        DUE.is("water", line.waterOf(0), 10);
        DUE.is("smell", line.smellOf(0), 1);
    }

    static void p60AFallMakesRoom() {
        ClothesLine line = Due.lineOf("line 1 0 0;wind 0;garment 2 20 99 9;garment 2 1 9 0;hang 0 4 1 0;shower 0 1 1;"
                + "minutes 1;hang 1 4 1 0;");
        DUE.is("hung there with its peg", line.garmentAt(4), 1);
    }
}
