/** Promises 46 to 50: predictions. */
public final class PredictionsTest {
    private static final Due DUE = new Due("PredictionsTest");

    public static void main(String[] args) {
        DUE.everyTestOf(PredictionsTest.class);
    }

    /** A garment in the shade that loses 1 in a minute. */
    private static ClothesLine shady(int water) {
        return Due.lineOf("line 9 9 24;wind 1;garment 1 1 999 " + water + ";hang 0 0 0 3;");
    }

    /** A garment that falls when the minute of its only shower has passed. */
    private static ClothesLine late(int start) {
        return Due.lineOf("line 9 9 24;wind 0;garment 1 20 99 0;hang 0 4 1 0;shower " + start + " 1 10;");
    }

    /** A garment of width 2 that falls with water 200, when 10 minutes have passed. */
    private static ClothesLine rainy() {
        return Due.lineOf("line 9 9 24;wind 0;garment 2 1 300 0;hang 0 4 1 0;shower 0 15 10;shower 400 99 1;");
    }

    // ---- water after minutes

    /** "minutes: 0 to 500" */
    static void p46From0To500() {
        DUE.is("0", shady(501).waterAfter(0, 0), 501);
        DUE.is("1", shady(501).waterAfter(0, 1), 500);
        DUE.is("499", shady(501).waterAfter(0, 499), 2);
        DUE.is("500", shady(501).waterAfter(0, 500), 1);
    }

    /** "Throws IllegalArgumentException if minutes is out of range" */
    static void p46OtherMinutes() {
        for (int minutes : new int[] {-1, 501, Integer.MIN_VALUE, Integer.MAX_VALUE}) {
            DUE.refused("waterAfter 1 " + minutes, Due.NO_ARGUMENT, Scenes::busy, line -> line.waterAfter(1, minutes));
        }
    }

    static void p46NoSuchGarment() {
        DUE.is("the tenth", Scenes.full().waterAfter(9, 500), 9);
        DUE.refusesOtherGarments("waterAfter", (line, garment) -> line.waterAfter(garment, 1));
    }

    /** "If several exceptions apply to a call, the one that is listed first is thrown." */
    static void p46NoSuchGarmentBeforeOtherMinutes() {
        DUE.refused("waterAfter 4 501", Due.NO_INDEX, Scenes::busy, line -> line.waterAfter(4, 501));
        DUE.refused("waterAfter -1 -1", Due.NO_INDEX, Scenes::busy, line -> line.waterAfter(-1, -1));
    }

    /** "when so many minutes have passed": from the present one on */
    static void p46FromThePresentMinuteOn() {
        ClothesLine line = new ClothesLine();
        DUE.is("4", line.waterAfter(1, 4), 2);
        DUE.is("5", line.waterAfter(1, 5), 0);
        DUE.is("the wind ends with the minute 59", line.waterAfter(0, 60), 120);
        DUE.is("the shadow leaves a spot in the minute 90", line.waterAfter(0, 75), 110);
        DUE.is("rain comes in the minute 100", line.waterAfter(0, 76), 116);
    }

    static void p46OffTheLineItStays() {
        ClothesLine line = new ClothesLine();
        line.wash(3);
        DUE.is("in the basket", line.waterAfter(3, 500), 90);
        DUE.is("on the ground", Scenes.fallen().waterAfter(0, 500), 120);
    }

    static void p46AfterItsFallItStays() {
        DUE.is("before", rainy().waterAfter(0, 9), 180);
        DUE.is("it falls", rainy().waterAfter(0, 10), 200);
        DUE.is("fallen", rainy().waterAfter(0, 11), 200);
        DUE.is("fallen, and it rains again", rainy().waterAfter(0, 500), 200);
        ClothesLine falls = Due.lineOf("line 9 9 0;wind 5;garment 1 20 99 0;hang 0 4 1 0;shower 3 1 10;");
        DUE.is("fallen, and the sun does not dry it", falls.waterAfter(0, 500), 10);
    }

    static void p46OnlyTheAskedGarment() {
        ClothesLine line = new ClothesLine();
        DUE.is("0", line.waterAfter(0, 5), 150);
        DUE.is("2", line.waterAfter(2, 5), 320);
    }

    static void p46NothingChanges() {
        DUE.changesNothing("waterAfter", Scenes::busy, line -> line.waterAfter(1, 500));
        DUE.changesNothing("waterAfter of the rainy", PredictionsTest::rainy, line -> line.waterAfter(0, 500));
    }

    // ---- minutes to dry

    /** "the smallest number of minutes, 0 to 500" */
    static void p47From0To500() {
        DUE.is("0", shady(0).minutesToDry(0), 0);
        DUE.is("1", shady(1).minutesToDry(0), 1);
        DUE.is("499", shady(499).minutesToDry(0), 499);
        DUE.is("500", shady(500).minutesToDry(0), 500);
    }

    /** "NONE if there is none" */
    static void p47NoneAfter500() {
        DUE.is("501", shady(501).minutesToDry(0), -1);
        DUE.is("999", shady(999).minutesToDry(0), -1);
    }

    static void p47TheSmallestNumber() {
        ClothesLine soon = Due.lineOf("line 9 9 0;wind 0;garment 1 1 99 3;hang 0 0 1 0;shower 3 20 9;");
        DUE.is("dry, then wet again, then dry again", soon.minutesToDry(0), 3);
        ClothesLine rain = Due.lineOf("line 9 9 0;wind 0;garment 1 1 99 0;hang 0 0 1 0;shower 0 20 9;");
        DUE.is("dry only now", rain.minutesToDry(0), 0);
        DUE.is("in 5", new ClothesLine().minutesToDry(1), 5);
    }

    static void p47OffTheLine() {
        ClothesLine line = new ClothesLine();
        DUE.is("dry in the basket", line.minutesToDry(3), 0);
        line.wash(3);
        DUE.is("wet in the basket", line.minutesToDry(3), -1);
        DUE.is("on the ground", Scenes.fallen().minutesToDry(0), -1);
        DUE.is("falls before it is dry", rainy().minutesToDry(0), 0);
        ClothesLine falls = Due.lineOf("line 9 9 0;wind 0;garment 1 20 99 9;hang 0 4 1 0;shower 3 1 10;");
        DUE.is("falls wet", falls.minutesToDry(0), -1);
    }

    static void p47NoSuchGarment() {
        DUE.is("the tenth", Scenes.full().minutesToDry(9), -1);
        DUE.refusesOtherGarments("minutesToDry", ClothesLine::minutesToDry);
    }

    static void p47NothingChanges() {
        DUE.changesNothing("minutesToDry", Scenes::busy, line -> line.minutesToDry(1));
    }

    // ---- minutes to fall

    /** "the smallest number of minutes, 1 to 500" */
    static void p48From1To500() {
        DUE.is("1", late(0).minutesToFall(0), 1);
        DUE.is("2", late(1).minutesToFall(0), 2);
        DUE.is("500", late(499).minutesToFall(0), 500);
    }

    /** "NONE if there is none" */
    static void p48NoneAfter500() {
        DUE.is("501", late(500).minutesToFall(0), -1);
    }

    static void p48NoneIfItDoesNotFall() {
        DUE.is("on the line", new ClothesLine().minutesToFall(0), -1);
        DUE.is("in the basket", new ClothesLine().minutesToFall(3), -1);
        DUE.is("on the ground", Scenes.fallen().minutesToFall(0), -1);
    }

    /** "after which it has fallen once more than now" */
    static void p48OnceMoreThanNow() {
        ClothesLine line = Due.lineOf("line 9 9 24;wind 0;garment 1 20 99 0;hang 0 4 1 0;shower 0 1 10;shower 30 4 20;"
                + "minutes 1;pick 0;hang 0 4 0 1;");
        DUE.is("fallen once", line.fallsOf(0), 1);
        DUE.is("the steel peg holds it", line.minutesToFall(0), -1);
        ClothesLine again = Due.lineOf("line 9 9 24;wind 5;garment 1 44 99 9;hang 0 4 0 1;shower 0 1 20;shower 30 1 20;"
                + "minutes 1;pick 0;hang 0 4 4 0;take 0;hang 0 4 1 1;");
        DUE.is("fallen, and held by more", again.fallsOf(0) * 100 + again.minutesToFall(0), 99);
        ClothesLine twice = Due.lineOf("line 9 9 24;wind 5;garment 1 44 99 9;hang 0 4 0 1;shower 0 1 20;shower 30 1 20;"
                + "minutes 1;pick 0;hang 0 4 4 0;minutes 9;take 0;hang 0 4 0 1;");
        DUE.is("fallen, and falls again", twice.fallsOf(0) * 100 + twice.minutesToFall(0), 121);
    }

    /** A weight as great as the hold does not fall. */
    static void p48OnlyIfTheWeightIsGreater() {
        String setup = "line 9 9 24;wind 0;garment 1 10 300 0;hang 0 4 1 0;shower 0 5 20;";
        DUE.is("water 100 weighs 20", Due.lineOf(setup).minutesToFall(0), -1);
        DUE.is("water 109 weighs 20", Due.lineOf(setup + "shower 5 1 9;").minutesToFall(0), -1);
        DUE.is("water 110 weighs 21", Due.lineOf(setup + "shower 5 1 10;").minutesToFall(0), 6);
    }

    static void p48EachGarmentAlone() {
        ClothesLine line = Due.lineOf("line 9 9 24;wind 0;garment 1 1 9 0;garment 1 20 99 0;hang 0 0 1 0;hang 1 1 1 0;"
                + "shower 3 1 10;");
        Due.run(line, "wind 0 0;");
        DUE.is("the light one, after a script", line.minutesToFall(0), -1);
        DUE.is("the one at risk", line.garmentsAtRisk(), 2);
        DUE.is("the light one", line.minutesToFall(0), -1);
        DUE.is("the heavy one", line.minutesToFall(1), 4);
    }

    static void p48NoSuchGarment() {
        DUE.is("the tenth", Scenes.full().minutesToFall(9), -1);
        DUE.refusesOtherGarments("minutesToFall", ClothesLine::minutesToFall);
    }

    static void p48NothingChanges() {
        DUE.changesNothing("minutesToFall", Scenes::busy, line -> line.minutesToFall(1));
        DUE.changesNothing("minutesToFall of the late", () -> late(9), line -> line.minutesToFall(0));
    }

    // ---- garments at risk

    /** "that will have fallen when 60 minutes have passed" */
    static void p49When60MinutesHavePassed() {
        DUE.is("in the first minute", late(0).garmentsAtRisk(), 1);
        DUE.is("in the 60th minute", late(59).garmentsAtRisk(), 1);
        DUE.is("in the 61st minute", late(60).garmentsAtRisk(), 0);
    }

    /** "the garments on the line" */
    static void p49OnlyThoseOnTheLine() {
        DUE.is("on the ground, and one held", Scenes.fallen().garmentsAtRisk(), 0);
        ClothesLine line = late(59);
        line.takeDown(0);
        DUE.is("in the basket", line.garmentsAtRisk(), 0);
        DUE.is("no garment", Scenes.empty().garmentsAtRisk(), 0);
        DUE.is("none that falls", new ClothesLine().garmentsAtRisk(), 0);
    }

    static void p49ASetOfGarments() {
        ClothesLine line = Due.lineOf("line 30 9 0;wind 0;" + "garment 1 20 99 0;".repeat(10) + "hang 9 4 1 0;hang 0 6 1 0;"
                + "hang 1 9 0 1;shower 0 1 10;shower 5 1 10;");
        DUE.is("the first and the tenth", line.garmentsAtRisk(), 513);
        line.passMinutes(1);
        DUE.is("fallen", line.garmentsAtRisk(), 0);
        DUE.is("three", threeAtRisk().garmentsAtRisk(), 7);
    }

    private static ClothesLine threeAtRisk() {
        return Due.lineOf("line 9 9 0;wind 0;garment 1 20 99 0;garment 1 20 99 0;garment 1 20 99 0;hang 0 4 1 0;hang 1 5 1 0;"
                + "hang 2 6 1 0;shower 40 1 10;");
    }

    /** "bit i stands for ... the garment with the number i" */
    static void p49BitIStandsForTheGarmentI() {
        for (int garment = 0; garment < 10; garment++) {
            ClothesLine line = Due.lineOf("line 9 9 0;wind 0;" + "garment 1 20 99 0;".repeat(10) + "shower 9 1 10;");
            line.hang(garment, 5, 1, 0);
            line.hang((garment + 1) % 10, 6, 0, 1);
            DUE.is("at risk " + garment, line.garmentsAtRisk(), 1 << garment);
        }
    }

    static void p49NothingChanges() {
        DUE.changesNothing("garmentsAtRisk", Scenes::busy, ClothesLine::garmentsAtRisk);
        DUE.changesNothing("garmentsAtRisk of three", PredictionsTest::threeAtRisk, ClothesLine::garmentsAtRisk);
    }

    // ---- best spot

    /** "NONE if it is not in the basket" */
    static void p50NoneIfItIsNotInTheBasket() {
        DUE.is("on the line", new ClothesLine().bestSpot(0), -1);
        DUE.is("on the ground", Scenes.fallen().bestSpot(0), -1);
        DUE.is("in the basket", Scenes.fallen().bestSpot(3), 0);
    }

    /** "or has no room" */
    static void p50NoneIfItHasNoRoom() {
        String three = "line 9 9 0;wind 0;garment 6 1 1 0;garment 6 1 1 0;garment 6 1 1 0;garment 5 1 9 9;garment 2 1 9 9;"
                + "garment 1 1 9 9;hang 0 0 1 0;hang 1 6 1 0;hang 2 12 1 0;";
        ClothesLine full = Due.lineOf(three + "hang 3 18 1 0;");
        DUE.is("width 2", full.bestSpot(4), -1);
        DUE.is("width 1 at the last spot", full.bestSpot(5), 23);
        full.shift(3, 19);
        DUE.is("width 1 between two", full.bestSpot(5), 18);
        DUE.is("width 2", full.bestSpot(4), -1);
        full.takeDown(3);
        DUE.is("width 2 with room", full.bestSpot(4), 18);
    }

    /** "among those at which it has room now": up to spot 24 less its width */
    static void p50TheLastSpotsOfEachWidth() {
        for (int width = 1; width <= 6; width++) {
            // Until it rains, the shadow covers all spots but the last ones, as many as the garment is wide.
            ClothesLine line = Due.lineOf("line 0 0 " + (24 - width) + ";wind 0;garment " + width + " 9 999 500;shower 30 60 1;");
            DUE.is("width " + width, line.bestSpot(0), 24 - width);
        }
    }

    /** "at which it would have the least water" */
    static void p50TheLeastWater() {
        ClothesLine line = Due.lineOf("line 0 0 6;wind 0;garment 1 99 999 999;garment 6 1 999 999;garment 3 9 999 999;");
        DUE.is("the shadow covers the spots 0 to 6 within the hour", line.bestSpot(0), 7);
        DUE.is("a wide one", line.bestSpot(1), 7);
        ClothesLine left = Due.lineOf("line 0 0 20;wind 0;garment 3 9 500 500;");
        DUE.is("the sun is right of the shadow", left.bestSpot(0), 21);
    }

    /** "of several the smallest one" */
    static void p50OfSeveralTheSmallest() {
        DUE.is("a dry one", Due.lineOf("line 0 0 6;wind 0;garment 1 1 9 0;").bestSpot(0), 0);
        DUE.is("one that dries everywhere", Due.lineOf("line 0 0 6;wind 0;garment 2 1 30 30;").bestSpot(0), 0);
        DUE.is("one that rain fills", Due.lineOf("line 0 0 6;wind 0;garment 1 1 9 0;shower 0 60 9;").bestSpot(0), 0);
        DUE.is("all in the shade", Due.lineOf("line 0 0 24;wind 5;garment 1 1 999 999;").bestSpot(0), 0);
        ClothesLine line = new ClothesLine();
        line.shift(0, 1);
        line.addGarment(1, 1, 1, 0);
        line.hang(4, 4, 1, 0);
        DUE.is("where there is room", line.bestSpot(3), 5);
    }

    /** "when 60 minutes have passed": the shadow of width 1 covers the spots 0, 1, and from the minute 60 on 2 */
    static void p50When60MinutesHavePassed() {
        ClothesLine line = Due.lineOf("line 0 0 1;wind 0;garment 1 9 999 999;");
        DUE.is("from 0 to 59", line.bestSpot(0), 2);
        line.passMinutes(1);
        DUE.is("from 1 to 60: 29 minutes at 0, 30 at 1, one at 2", line.bestSpot(0), 3);
        ClothesLine rain = Due.lineOf("line 0 0 1;wind 0;garment 1 9 999 500;shower 0 59 1;");
        DUE.is("sun in the 60th minute alone, and the shadow at 1", rain.bestSpot(0), 0);
        ClothesLine more = Due.lineOf("line 0 0 2;wind 0;garment 1 9 999 500;shower 0 29 1;shower 30 60 1;");
        DUE.is("sun in the 30th minute alone, and the shadow at 0 and 1", more.bestSpot(0), 2);
        ClothesLine over = Due.lineOf("line 0 0 2;wind 0;garment 1 9 999 500;shower 0 60 1;");
        DUE.is("no sun within the hour", over.bestSpot(0), 0);
    }

    /** "where its pegs do not matter: it does not fall, and no pegs of the bag are needed" */
    static void p50ItsPegsDoNotMatter() {
        DUE.is("without pegs", Due.lineOf("line 0 0 6;wind 0;garment 1 99 999 999;").bestSpot(0), 7);
        ClothesLine line = Due.lineOf("line 0 0 2;wind 0;garment 6 99 999 900;shower 0 30 20;");
        DUE.is("it weighs 198 and does not fall, then it dries", line.bestSpot(0), 3);
    }

    static void p50TheOthersStayWhereTheyAre() {
        ClothesLine line = Due.lineOf("line 9 9 6;wind 0;garment 1 99 999 999;garment 1 20 99 0;hang 1 7 1 0;shower 0 1 10;");
        DUE.is("its spot is occupied now, though it falls", line.bestSpot(0), 8);
    }

    static void p50NoSuchGarment() {
        DUE.is("the tenth", Scenes.full().bestSpot(9), 0);
        DUE.refusesOtherGarments("bestSpot", ClothesLine::bestSpot);
    }

    static void p50NothingChanges() {
        DUE.changesNothing("bestSpot", Scenes::busy, line -> line.bestSpot(2));
        DUE.changesNothing("bestSpot of one on the line", Scenes::busy, line -> line.bestSpot(1));
    }

    // ---- all of them

    static void p46PredictionsComeTrue() {
        ClothesLine line = new ClothesLine();
        line.addShower(140, 30, 20);
        int[] water = new int[3];
        for (int g = 0; g < 3; g++) {
            water[g] = line.waterAfter(g, 170);
        }
        line.passMinutes(170);
        for (int g = 0; g < 3; g++) {
            DUE.is("water of " + g, line.waterOf(g), water[g]);
        }
    }

    static void p48PredictionsComeTrue() {
        ClothesLine line = rainy();
        int fall = line.minutesToFall(0);
        DUE.is("minutesToFall", fall, 10);
        line.passMinutes(fall - 1);
        DUE.is("not yet", line.fallsOf(0), 0);
        line.passMinutes(1);
        DUE.is("now", line.fallsOf(0), 1);
    }
}
