/** Promises 46 to 50: predictions. */
public final class PredictionsTest {
    private static final Due DUE = new Due("PredictionsTest");

    public static void main(String[] args) {
        promise46WaterAfter();
        promise47MinutesToDry();
        promise48MinutesToFall();
        promise48OneFallsAndOneDoesNot();
        promise49GarmentsAtRisk();
        promise50BestSpot();
        predictionsComeTrue();
        nothingChanges();
        wrongGarments();
        DUE.end();
    }

    private static void promise46WaterAfter() {
        ClothesLine line = new ClothesLine();
        DUE.is("after 0", line.waterAfter(1, 0), 10);
        DUE.is("after 4", line.waterAfter(1, 4), 2);
        DUE.is("after 5", line.waterAfter(1, 5), 0);
        DUE.is("in the basket", line.waterAfter(3, 500), 0);
        line.wash(3);
        DUE.is("wet in the basket", line.waterAfter(3, 500), 90);
        ClothesLine rain = Due.lineOf("line 9 9 24;wind 0;garment 2 1 300 0;hang 0 4 1 0;shower 0 15 10;shower 400 99 1;");
        DUE.is("rain", rain.waterAfter(0, 9), 180);
        DUE.is("rain to the fall", rain.waterAfter(0, 11), 200);
        DUE.is("no rain on the ground", rain.waterAfter(0, 500), 200);
        for (int minutes : new int[] {-1, 501, Integer.MIN_VALUE, Integer.MAX_VALUE}) {
            DUE.throwsIt("waterAfter 0 " + minutes, IllegalArgumentException.class, () -> line.waterAfter(0, minutes));
            DUE.throwsIt("waterAfter 4 " + minutes, IndexOutOfBoundsException.class, () -> line.waterAfter(4, minutes));
        }
    }

    private static void promise47MinutesToDry() {
        ClothesLine line = new ClothesLine();
        DUE.is("dry already", line.minutesToDry(3), 0);
        DUE.is("dry in 5", line.minutesToDry(1), 5);
        line.wash(3);
        DUE.is("never in the basket", line.minutesToDry(3), -1);
        DUE.is("500", shady(500).minutesToDry(0), 500);
        DUE.is("501", shady(501).minutesToDry(0), -1);
        ClothesLine soon = Due.lineOf("line 9 9 0;wind 0;garment 1 1 99 3;hang 0 0 1 0;shower 3 90 9;");
        DUE.is("dry before the rain", soon.minutesToDry(0), 3);
    }

    private static ClothesLine shady(int water) {
        return Due.lineOf("line 9 9 24;wind 1;garment 1 1 999 " + water + ";hang 0 0 0 2;");
    }

    private static void promise48MinutesToFall() {
        ClothesLine line = new ClothesLine();
        DUE.is("does not fall", line.minutesToFall(0), -1);
        DUE.is("not on the line", line.minutesToFall(3), -1);
        ClothesLine rain = Due.lineOf("line 9 9 24;wind 0;garment 2 1 300 0;hang 0 4 1 0;shower 1 15 10;");
        DUE.is("falls in 11", rain.minutesToFall(0), 11);
        rain.passMinutes(10);
        DUE.is("falls in 1", rain.minutesToFall(0), 1);
        rain.passMinutes(1);
        DUE.is("has fallen", rain.minutesToFall(0), -1);
        DUE.is("falls in 500", late(499).minutesToFall(0), 500);
        DUE.is("falls in 501", late(500).minutesToFall(0), -1);
    }

    private static ClothesLine late(int start) {
        return Due.lineOf("line 9 9 24;wind 0;garment 1 20 99 0;hang 0 4 1 0;shower " + start + " 1 10;");
    }

    /** Each garment is predicted alone, whatever was predicted before. */
    private static void promise48OneFallsAndOneDoesNot() {
        ClothesLine line = Due.lineOf("line 9 9 24;wind 0;garment 1 1 9 0;garment 1 20 99 0;hang 0 0 1 0;hang 1 1 1 0;"
                + "shower 3 1 10;");
        Due.run(line, "wind 0 0;");
        DUE.is("the light one does not fall, after a script", line.minutesToFall(0), -1);
        DUE.is("the one at risk", line.garmentsAtRisk(), 2);
        DUE.is("the light one does not fall", line.minutesToFall(0), -1);
        DUE.is("the heavy one falls", line.minutesToFall(1), 4);
        DUE.is("the heavy one's water", line.waterAfter(1, 9), 10);
    }

    private static void promise49GarmentsAtRisk() {
        DUE.is("no risk", new ClothesLine().garmentsAtRisk(), 0);
        DUE.is("risk in the minute 59", late(59).garmentsAtRisk(), 1);
        DUE.is("risk in the minute 60", late(60).garmentsAtRisk(), 0);
        ClothesLine two = Due.lineOf("line 9 9 0;wind 0;garment 1 20 99 0;garment 1 20 99 0;garment 1 20 99 0;"
                + "hang 2 4 1 0;hang 0 6 1 0;hang 1 9 0 1;shower 0 1 10;shower 5 1 10;");
        DUE.is("two at risk", two.garmentsAtRisk(), 5);
        two.passMinutes(1);
        DUE.is("on the ground there is no risk", two.garmentsAtRisk(), 0);
        two.pickUp(2);
        DUE.is("in the basket there is no risk", two.garmentsAtRisk(), 0);
        two.hang(2, 0, 0, 1);
        two.takeDown(1);
        two.hang(1, 1, 0, 1);
        DUE.is("on steel there is no risk", two.garmentsAtRisk(), 0);
    }

    /** The shadow covers the spots 0 to 5 until the minute 29, and the spots 1 to 6 until the minute 59. */
    private static void promise50BestSpot() {
        ClothesLine line = Due.lineOf("line 0 0 6;wind 0;garment 1 99 999 999;garment 2 1 30 30;garment 6 1 999 999;");
        DUE.is("the first in the sun for an hour", line.bestSpot(0), 7);
        DUE.is("the first that dries", line.bestSpot(1), 0);
        DUE.is("a wide one", line.bestSpot(2), 7);
        ClothesLine full = Due.lineOf("line 9 9 0;wind 0;garment 6 1 1 0;garment 6 1 1 0;garment 6 1 1 0;garment 5 1 9 9;"
                + "garment 2 1 9 9;garment 1 1 9 9;hang 0 0 1 0;hang 1 6 1 0;hang 2 12 1 0;hang 3 18 1 0;");
        DUE.is("no room", full.bestSpot(4), -1);
        DUE.is("the last spot", full.bestSpot(5), 23);
        DUE.is("on the line", full.bestSpot(3), -1);
        ClothesLine fallen = Due.lineOf("line 9 9 0;wind 0;garment 1 9 990 0;hang 0 0 1 0;shower 0 6 20;minutes 6;");
        DUE.is("on the ground", fallen.bestSpot(0), -1);
        DUE.is("a dry one", new ClothesLine().bestSpot(3), 0);
        DUE.is("a dry one, where there is room", withoutTheFirstSpots().bestSpot(3), 5);
        ClothesLine rain = Due.lineOf("line 0 0 6;wind 0;garment 1 99 999 0;shower 0 59 1;");
        DUE.is("rain, then one minute of sun", rain.bestSpot(0), 0);
        ClothesLine wet = Due.lineOf("line 0 0 6;wind 0;garment 1 99 999 900;shower 0 31 3;");
        DUE.is("it does not fall", wet.bestSpot(0), 0);
        wet.passMinutes(31);
        DUE.is("sun from 31 to 90", wet.bestSpot(0), 0);
        wet.passMinutes(30);
        DUE.is("sun from 61 to 120", wet.bestSpot(0), 0);
        ClothesLine left = Due.lineOf("line 0 0 20;wind 0;garment 3 9 500 500;");
        DUE.is("the sun is right of the shadow", left.bestSpot(0), 21);
    }

    private static ClothesLine withoutTheFirstSpots() {
        ClothesLine line = new ClothesLine();
        line.shift(0, 1);
        line.addGarment(1, 1, 1, 0);
        line.hang(4, 4, 1, 0);
        return line;
    }

    private static void predictionsComeTrue() {
        ClothesLine line = new ClothesLine();
        line.addShower(140, 30, 20);
        int[] water = new int[3];
        for (int g = 0; g < 3; g++) {
            water[g] = line.waterAfter(g, 170);
        }
        int fall = line.minutesToFall(0);
        line.passMinutes(170);
        for (int g = 0; g < 3; g++) {
            DUE.is("water of " + g, line.waterOf(g), water[g]);
        }
        line.undo();
        if (fall != -1) {
            line.passMinutes(fall - 1);
            DUE.is("not yet fallen", line.fallsOf(0), 0);
            line.passMinutes(1);
            DUE.is("fallen", line.fallsOf(0), 1);
        }
    }

    private static void nothingChanges() {
        ClothesLine line = new ClothesLine();
        String before = Due.seen(line);
        for (int g = 0; g < 4; g++) {
            line.waterAfter(g, 500);
            line.minutesToDry(g);
            line.minutesToFall(g);
            line.bestSpot(g);
        }
        line.garmentsAtRisk();
        DUE.same("predictions change nothing", Due.seen(line), before);
    }

    private static void wrongGarments() {
        ClothesLine line = new ClothesLine();
        DUE.throwsForNoGarment("waterAfter", garment -> line.waterAfter(garment, 1));
        DUE.throwsForNoGarment("minutesToDry", line::minutesToDry);
        DUE.throwsForNoGarment("minutesToFall", line::minutesToFall);
        DUE.throwsForNoGarment("bestSpot", line::bestSpot);
    }
}
