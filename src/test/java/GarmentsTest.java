/** Promises 21 to 38: garments. */
public final class GarmentsTest {
    private static final Due DUE = new Due("GarmentsTest");

    public static void main(String[] args) {
        promise21GarmentCount();
        promises22To34();
        promise28Smell();
        promise33Falls();
        promise35GarmentsIn();
        promise36DryGarments();
        promise37Obstacles();
        promise37Exceptions();
        promise38FewestPegs();
        wrongGarments();
        DUE.end();
    }

    private static void promise21GarmentCount() {
        ClothesLine line = Due.lineOf("line 0 0 0;wind 0;");
        for (int i = 0; i < 10; i++) {
            DUE.is("count " + i, line.garmentCount(), i);
            line.addGarment(1, 1, 1, 1);
        }
        DUE.is("count 10", line.garmentCount(), 10);
    }

    private static void promises22To34() {
        ClothesLine line = new ClothesLine();
        int[][] due = {
            {1, 3, 12, 200, 155, 27, 0, 2, 2, 0, 40, 0},
            {1, 1, 4, 60, 10, 5, 0, 8, 1, 0, 20, 0},
            {1, 5, 40, 600, 350, 75, 0, 12, 1, 2, 110, 0},
            {0, 2, 9, 90, 0, 9, 0, -1, 0, 0, 0, 0}};
        for (int g = 0; g < 4; g++) {
            DUE.is("stateOf " + g, line.stateOf(g), due[g][0]);
            DUE.is("widthOf " + g, line.widthOf(g), due[g][1]);
            DUE.is("dryWeight " + g, line.dryWeight(g), due[g][2]);
            DUE.is("capacityOf " + g, line.capacityOf(g), due[g][3]);
            DUE.is("waterOf " + g, line.waterOf(g), due[g][4]);
            DUE.is("weightOf " + g, line.weightOf(g), due[g][5]);
            DUE.is("smellOf " + g, line.smellOf(g), due[g][6]);
            DUE.is("spotOf " + g, line.spotOf(g), due[g][7]);
            DUE.is("woodenOf " + g, line.woodenOf(g), due[g][8]);
            DUE.is("steelOf " + g, line.steelOf(g), due[g][9]);
            DUE.is("holdOf " + g, line.holdOf(g), due[g][10]);
            DUE.is("fallsOf " + g, line.fallsOf(g), due[g][11]);
            DUE.is("isDirty " + g, line.isDirty(g), false);
        }
        line.takeDown(2);
        DUE.is("taken: spot", line.spotOf(2), -1);
        DUE.is("taken: wooden", line.woodenOf(2), 0);
        DUE.is("taken: steel", line.steelOf(2), 0);
        DUE.is("taken: hold", line.holdOf(2), 0);
        DUE.is("taken: water", line.waterOf(2), 350);
        line.addGarment(1, 99, 999, 999);
        DUE.is("the heaviest", line.weightOf(4), 198);
        line.addGarment(1, 99, 999, 9);
        DUE.is("rounded down", line.weightOf(5), 99);
    }

    /** Smoke in the minutes 30 to 70, and the wind is 0 from 60 to 119: the spots 0 to 3 smell until 59. */
    private static void promise28Smell() {
        ClothesLine line = new ClothesLine();
        line.shift(0, 0);
        line.takeDown(1);
        line.hang(3, 4, 1, 0);
        line.hang(1, 3, 1, 0);
        line.passMinutes(5);
        DUE.is("no smoke yet", line.smellOf(0), 0);
        line.passMinutes(10);
        DUE.is("smoke", line.smellOf(0), 10);
        DUE.is("smoke at the spot 3", line.smellOf(1), 10);
        DUE.is("no smoke at the spot 4", line.smellOf(3), 0);
        line.shift(1, 7);
        line.passMinutes(4);
        DUE.is("the wind takes the smell", line.smellOf(1), 6);
        line.passMinutes(16);
        DUE.is("not below 0", line.smellOf(1), 0);
        DUE.is("smoke to the end of the wind", line.smellOf(0), 30);
        line.passMinutes(60);
        DUE.is("no wind, no change", line.smellOf(0), 30);
        line.passMinutes(10);
        DUE.is("wind again", line.smellOf(0), 20);
        ClothesLine long1 = Due.lineOf("line 9 9 0;wind 1;garment 6 1 1 0;hang 0 3 1 0;smoke 0 200;minutes 98;");
        DUE.is("98", long1.smellOf(0), 98);
        long1.passMinutes(1);
        DUE.is("99", long1.smellOf(0), 99);
        long1.passMinutes(2);
        DUE.is("at most 99", long1.smellOf(0), 99);
        long1.passMinutes(100);
        DUE.is("99 in the last minute of the smoke", long1.smellOf(0), 99);
        long1.passMinutes(1);
        DUE.is("98 again", long1.smellOf(0), 98);
        long1.takeDown(0);
        long1.passMinutes(9);
        DUE.is("the basket keeps the smell", long1.smellOf(0), 98);
        long1.wash(0);
        DUE.is("washed", long1.smellOf(0), 0);
    }

    private static void promise33Falls() {
        ClothesLine line = Due.lineOf("line 9 9 0;wind 0;garment 2 1 300 0;hang 0 4 1 0;shower 0 9 10;shower 30 9 10;");
        line.passMinutes(9);
        DUE.is("water 180 weighs 19", line.stateOf(0) * 1000 + line.waterOf(0), 1180);
        DUE.is("not fallen", line.fallsOf(0), 0);
        line.addShower(9, 2, 5);
        DUE.is("weight 20 is held", line.passMinutes(1) * 1000 + line.waterOf(0), 190);
        DUE.is("weight 21 is not", line.passMinutes(1), 1);
        DUE.is("fallen: state", line.stateOf(0), ClothesLine.GROUND);
        DUE.is("fallen: falls", line.fallsOf(0), 1);
        DUE.is("fallen: dirty", line.isDirty(0), true);
        DUE.is("fallen: spot", line.spotOf(0), -1);
        DUE.is("fallen: pegs", line.woodenOf(0) + line.steelOf(0) + line.holdOf(0), 0);
        line.passMinutes(30);
        DUE.is("the ground is dry", line.waterOf(0), 200);
        line.pickUp(0);
        DUE.is("picked: dirty", line.isDirty(0), true);
        line.hang(0, 4, 0, 1);
        DUE.is("hung: dirty", line.isDirty(0), true);
        line.takeDown(0);
        line.wash(0);
        DUE.is("washed: clean", line.isDirty(0), false);
        DUE.is("washed: falls stay", line.fallsOf(0), 1);
    }

    private static void promise35GarmentsIn() {
        ClothesLine line = new ClothesLine();
        DUE.is("basket", line.garmentsIn(ClothesLine.BASKET), 8);
        DUE.is("line", line.garmentsIn(ClothesLine.LINE), 7);
        DUE.is("ground", line.garmentsIn(ClothesLine.GROUND), 0);
        line.addGarment(1, 5, 200, 0);
        line.hang(4, 20, 1, 0);
        line.addShower(25, 10, 20);
        line.passMinutes(10);
        DUE.is("ground after a fall", line.garmentsIn(ClothesLine.GROUND) & 16, 16);
        for (int state : new int[] {-1, 3, Integer.MIN_VALUE, Integer.MAX_VALUE}) {
            DUE.throwsIt("garmentsIn " + state, IllegalArgumentException.class, () -> line.garmentsIn(state));
        }
    }

    private static void promise36DryGarments() {
        ClothesLine line = new ClothesLine();
        DUE.is("dry in the basket", line.dryGarments(), 8);
        line.passMinutes(5);
        DUE.is("dry on the line", line.dryGarments(), 10);
        line.wash(3);
        DUE.is("washed", line.dryGarments(), 2);
        DUE.is("none", Due.lineOf("line 0 0 0;wind 0;").dryGarments(), 0);
    }

    private static void promise37Obstacles() {
        ClothesLine line = new ClothesLine();
        DUE.is("on the line, before all else", line.hangObstacle(0, 23, 0, 0), 1);
        DUE.is("beyond, before pegs", line.hangObstacle(3, 23, 0, 0), 2);
        DUE.is("just not beyond", line.hangObstacle(3, 22, 1, 0), 0);
        DUE.is("occupied at its end", line.hangObstacle(3, 7, 0, 0), 3);
        DUE.is("occupied at its begin", line.hangObstacle(3, 2, 4, 4), 3);
        DUE.is("occupied at its begin by a wide one", line.hangObstacle(3, 16, 1, 0), 3);
        DUE.is("free beside", line.hangObstacle(3, 17, 1, 0), 0);
        DUE.is("free between", line.hangObstacle(3, 6, 1, 0), 0);
        DUE.is("no peg", line.hangObstacle(3, 5, 0, 0), 4);
        DUE.is("five pegs", line.hangObstacle(3, 5, 4, 1), 4);
        DUE.is("eight pegs, before too few", line.hangObstacle(3, 5, 4, 4), 4);
        DUE.is("four pegs", line.hangObstacle(3, 5, 3, 1), 0);
        DUE.is("all wooden ones", line.hangObstacle(3, 5, 4, 0), 0);
        DUE.is("too few steel pegs", line.hangObstacle(3, 5, 0, 2), 5);
        line.addGarment(1, 21, 999, 0);
        line.addGarment(1, 20, 999, 9);
        line.addGarment(1, 20, 999, 10);
        DUE.is("too heavy", line.hangObstacle(4, 5, 1, 0), 6);
        DUE.is("too few pegs, before too heavy", line.hangObstacle(4, 5, 0, 2), 5);
        DUE.is("as heavy as the hold", line.hangObstacle(5, 5, 1, 0), 0);
        DUE.is("too heavy with its water", line.hangObstacle(6, 5, 1, 0), 6);
        DUE.is("steel holds it", line.hangObstacle(6, 5, 0, 1), 0);
        line.hang(5, 5, 3, 0);
        DUE.is("too few wooden pegs", line.hangObstacle(3, 19, 2, 0), 5);
        ClothesLine fallen = Due.lineOf("line 9 9 0;wind 0;garment 1 9 990 0;hang 0 0 1 0;shower 0 6 20;minutes 6;");
        DUE.is("on the ground", fallen.hangObstacle(0, 0, 1, 0), 1);
        DUE.is("steel holds 45", Due.lineOf("line 0 1 0;wind 0;garment 1 45 9 9;").hangObstacle(0, 0, 0, 1), 0);
        DUE.is("steel does not hold 46", Due.lineOf("line 0 1 0;wind 0;garment 1 46 9 9;").hangObstacle(0, 0, 0, 1), 6);
        DUE.is("obstacles are no changes", line.undoCount(), 4);
    }

    private static void promise37Exceptions() {
        ClothesLine line = new ClothesLine();
        for (int garment : Due.NO_GARMENTS) {
            DUE.throwsIt("hangObstacle of " + garment, IndexOutOfBoundsException.class,
                    () -> line.hangObstacle(garment, -1, 5, 5));
        }
        int[][] wrong = {{-1, 1, 0}, {24, 1, 0}, {0, -1, 0}, {0, 5, 0}, {0, 1, -1}, {0, 1, 5},
            {Integer.MAX_VALUE, 1, 0}, {Integer.MIN_VALUE, 1, 0}, {0, Integer.MAX_VALUE, Integer.MAX_VALUE}};
        for (int[] w : wrong) {
            for (int garment = 0; garment < 4; garment++) {
                int asked = garment;
                DUE.throwsIt("hangObstacle " + w[0] + " " + w[1] + " " + w[2], IllegalArgumentException.class,
                        () -> line.hangObstacle(asked, w[0], w[1], w[2]));
            }
        }
    }

    private static void promise38FewestPegs() {
        DUE.is("one steel peg", fewest(5, 5, 45), 1);
        DUE.is("two steel pegs", fewest(5, 5, 46), 2);
        DUE.is("two steel pegs hold 90", fewest(5, 5, 90), 2);
        DUE.is("three steel pegs", fewest(5, 5, 91), 3);
        DUE.is("one wooden peg", fewest(5, 0, 20), 1);
        DUE.is("two wooden pegs", fewest(5, 0, 21), 2);
        DUE.is("four wooden pegs", fewest(5, 0, 80), 4);
        DUE.is("five would do", fewest(5, 0, 81), -1);
        DUE.is("one and one", fewest(1, 1, 65), 2);
        DUE.is("one and one are too few", fewest(1, 1, 66), -1);
        DUE.is("no pegs", fewest(0, 0, 1), -1);
        DUE.is("one steel peg and three", fewest(3, 1, 99), 4);
        DUE.is("one steel peg and two", fewest(2, 1, 86), -1);
        ClothesLine line = new ClothesLine();
        DUE.is("on the line, with the pegs of the bag", line.fewestPegs(0), 1);
        DUE.is("75 on the line", line.fewestPegs(2), 3);
        DUE.is("with water", Due.lineOf("line 0 4 0;wind 0;garment 1 99 999 810;").fewestPegs(0), 4);
        DUE.is("with more water", Due.lineOf("line 0 4 0;wind 0;garment 1 99 999 820;").fewestPegs(0), -1);
        ClothesLine fallen = Due.lineOf("line 9 9 0;wind 0;garment 1 9 990 0;hang 0 0 1 0;shower 0 6 20;minutes 6;");
        DUE.is("on the ground", fallen.fewestPegs(0), 1);
    }

    private static int fewest(int wooden, int steel, int weight) {
        ClothesLine line = Due.lineOf("line " + wooden + " " + steel + " 0;wind 0;garment 1 " + weight + " 9 9;");
        return line.fewestPegs(0);
    }

    private static void wrongGarments() {
        ClothesLine line = new ClothesLine();
        DUE.throwsForNoGarment("stateOf", line::stateOf);
        DUE.throwsForNoGarment("widthOf", line::widthOf);
        DUE.throwsForNoGarment("dryWeight", line::dryWeight);
        DUE.throwsForNoGarment("capacityOf", line::capacityOf);
        DUE.throwsForNoGarment("waterOf", line::waterOf);
        DUE.throwsForNoGarment("weightOf", line::weightOf);
        DUE.throwsForNoGarment("smellOf", line::smellOf);
        DUE.throwsForNoGarment("spotOf", line::spotOf);
        DUE.throwsForNoGarment("woodenOf", line::woodenOf);
        DUE.throwsForNoGarment("steelOf", line::steelOf);
        DUE.throwsForNoGarment("holdOf", line::holdOf);
        DUE.throwsForNoGarment("fallsOf", line::fallsOf);
        DUE.throwsForNoGarment("isDirty", line::isDirty);
        DUE.throwsForNoGarment("fewestPegs", line::fewestPegs);
    }
}
