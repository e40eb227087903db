/** Promises 37 and 38: whether a garment can be hung, and with how many pegs. */
public final class HangingTest {
    private static final Due DUE = new Due("HangingTest");

    public static void main(String[] args) {
        DUE.everyTestOf(HangingTest.class);
    }

    /** A garment of this width in the basket, and another of width 4 at the spots 10 to 13. */
    private static ClothesLine besideAnother(int width) {
        return Due.lineOf("line 9 9 0;wind 0;garment " + width + " 1 9 0;garment 4 1 9 0;hang 1 10 1 0;");
    }

    private static ClothesLine bag(int wooden, int steel, int weight) {
        return Due.lineOf("line " + wooden + " " + steel + " 0;wind 0;garment 1 " + weight + " 9 9;");
    }

    // ---- obstacles

    /** "0 if none of them applies" */
    static void p37NoObstacle() {
        DUE.is("new line", new ClothesLine().hangObstacle(3, 22, 1, 0), 0);
        DUE.is("all pegs of the bag", new ClothesLine().hangObstacle(3, 5, 3, 1), 0);
    }

    /** "1 the garment is not in the basket" */
    static void p37NotInTheBasketIs1() {
        ClothesLine line = Scenes.fallen();
        DUE.is("on the ground", line.hangObstacle(0, 9, 1, 0), 1);
        DUE.is("on the line", line.hangObstacle(2, 9, 1, 0), 1);
        DUE.is("in the basket", line.hangObstacle(3, 9, 1, 0), 0);
        line.pickUp(0);
        DUE.is("picked up", line.hangObstacle(0, 9, 0, 1), 0);
        line.takeDown(2);
        DUE.is("taken down", line.hangObstacle(2, 9, 1, 0), 0);
    }

    /** "2 it would go beyond spot 23" */
    static void p37BeyondSpot23Is2() {
        for (int width = 1; width <= 6; width++) {
            ClothesLine line = besideAnother(width);
            DUE.is("the last spot of width " + width, line.hangObstacle(0, 24 - width, 1, 0), 0);
            if (width > 1) {
                DUE.is("one more", line.hangObstacle(0, 25 - width, 1, 0), 2);
                DUE.is("23", line.hangObstacle(0, 23, 1, 0), 2);
            }
        }
    }

    /** "3 a spot that it needs is occupied" */
    static void p37AnOccupiedSpotIs3() {
        ClothesLine line = besideAnother(2);
        DUE.is("just before", line.hangObstacle(0, 8, 1, 0), 0);
        DUE.is("its last spot", line.hangObstacle(0, 9, 1, 0), 3);
        DUE.is("within", line.hangObstacle(0, 11, 1, 0), 3);
        DUE.is("its first spot", line.hangObstacle(0, 13, 1, 0), 3);
        DUE.is("just behind", line.hangObstacle(0, 14, 1, 0), 0);
        ClothesLine wide = besideAnother(6);
        DUE.is("around all of it", wide.hangObstacle(0, 9, 1, 0), 3);
        line.takeDown(1);
        DUE.is("free again", line.hangObstacle(0, 11, 1, 0), 0);
    }

    /** "4 the number of pegs is 0 or greater than 4" */
    static void p37NoPegOrMoreThan4PegsIs4() {
        ClothesLine line = besideAnother(1);
        for (int wooden = 0; wooden <= 4; wooden++) {
            for (int steel = 0; steel <= 4; steel++) {
                int pegs = wooden + steel;
                DUE.is(wooden + " and " + steel, line.hangObstacle(0, 0, wooden, steel), pegs == 0 || pegs > 4 ? 4 : 0);
            }
        }
    }

    /** "5 there are too few pegs in the bag" */
    static void p37TooFewPegsIs5() {
        DUE.is("all wooden ones", bag(2, 0, 1).hangObstacle(0, 0, 2, 0), 0);
        DUE.is("one wooden more", bag(2, 9, 1).hangObstacle(0, 0, 3, 0), 5);
        DUE.is("all steel ones", bag(0, 2, 1).hangObstacle(0, 0, 0, 2), 0);
        DUE.is("one steel more", bag(9, 2, 1).hangObstacle(0, 0, 0, 3), 5);
        DUE.is("both", bag(1, 1, 1).hangObstacle(0, 0, 1, 1), 0);
        DUE.is("enough steel, no wooden", bag(0, 9, 1).hangObstacle(0, 0, 1, 1), 5);
        DUE.is("enough wooden, no steel", bag(9, 0, 1).hangObstacle(0, 0, 1, 1), 5);
        DUE.is("none", bag(0, 0, 1).hangObstacle(0, 0, 1, 0), 5);
        DUE.is("the pegs of others are not in the bag", new ClothesLine().hangObstacle(3, 5, 0, 2), 5);
    }

    /** "6 the weight is greater than the hold" */
    static void p37TooHeavyIs6() {
        DUE.is("wood holds 20", bag(9, 9, 20).hangObstacle(0, 0, 1, 0), 0);
        DUE.is("wood does not hold 21", bag(9, 9, 21).hangObstacle(0, 0, 1, 0), 6);
        DUE.is("steel holds 45", bag(9, 9, 45).hangObstacle(0, 0, 0, 1), 0);
        DUE.is("steel does not hold 46", bag(9, 9, 46).hangObstacle(0, 0, 0, 1), 6);
        DUE.is("both hold 65", bag(9, 9, 65).hangObstacle(0, 0, 1, 1), 0);
        DUE.is("both do not hold 66", bag(9, 9, 66).hangObstacle(0, 0, 1, 1), 6);
        DUE.is("four wooden ones hold 80", bag(9, 9, 80).hangObstacle(0, 0, 4, 0), 0);
        DUE.is("four wooden ones do not hold 81", bag(9, 9, 81).hangObstacle(0, 0, 4, 0), 6);
    }

    static void p37TheWaterWeighs() {
        ClothesLine line = Due.lineOf("line 9 9 0;wind 0;garment 1 20 99 9;garment 1 20 99 10;garment 1 99 999 819;"
                + "garment 1 99 999 820;");
        DUE.is("20 with water 9", line.hangObstacle(0, 0, 1, 0), 0);
        DUE.is("21 with water 10", line.hangObstacle(1, 0, 1, 0), 6);
        DUE.is("four steel ones hold 180", line.hangObstacle(2, 0, 0, 4), 0);
        DUE.is("four steel ones do not hold 181", line.hangObstacle(3, 0, 0, 4), 6);
    }

    /** "Returns the first of the following that applies" */
    static void p37TheFirstThatApplies() {
        ClothesLine line = Due.lineOf("line 1 1 0;wind 0;garment 4 99 9 0;garment 4 1 9 0;hang 1 10 0 1;");
        DUE.is("1 before 2 and 4", line.hangObstacle(1, 23, 0, 0), 1);
        DUE.is("1 before 3 and 5", line.hangObstacle(1, 10, 3, 0), 1);
        DUE.is("2 before 4", line.hangObstacle(0, 23, 0, 0), 2);
        DUE.is("2 before 5 and 6", line.hangObstacle(0, 23, 3, 0), 2);
        DUE.is("3 before 4", line.hangObstacle(0, 10, 0, 0), 3);
        DUE.is("3 before 5 and 6", line.hangObstacle(0, 10, 0, 1), 3);
        DUE.is("4 before 5", line.hangObstacle(0, 0, 4, 4), 4);
        DUE.is("4 before 6", line.hangObstacle(0, 0, 0, 0), 4);
        DUE.is("5 before 6", line.hangObstacle(0, 0, 2, 0), 5);
        DUE.is("6", line.hangObstacle(0, 0, 1, 0), 6);
    }

    static void p37TwoBefore3() {
        ClothesLine line = Due.lineOf("line 9 9 0;wind 0;garment 4 1 9 0;garment 1 1 9 0;hang 1 22 1 0;");
        DUE.is("beyond, and occupied", line.hangObstacle(0, 21, 1, 0), 2);
        DUE.is("occupied", line.hangObstacle(0, 20, 1, 0), 3);
    }

    static void p37NothingChanges() {
        DUE.changesNothing("hangObstacle", Scenes::busy, line -> line.hangObstacle(2, 9, 1, 0));
        DUE.changesNothing("hangObstacle of 1", Scenes::busy, line -> line.hangObstacle(1, 9, 1, 0));
    }

    static void p37NoSuchGarment() {
        DUE.is("the tenth", Scenes.full().hangObstacle(9, 23, 1, 0), 0);
        DUE.refusesOtherGarments("hangObstacle", (line, garment) -> line.hangObstacle(garment, 9, 1, 0));
    }

    /** "spot: 0 to 23"; "wooden: 0 to 4"; "steel: 0 to 4" */
    static void p37OutOfRange() {
        DUE.is("the least", besideAnother(1).hangObstacle(0, 0, 0, 0), 4);
        DUE.is("the most", besideAnother(1).hangObstacle(0, 23, 4, 4), 4);
        int[][] wrong = {{-1, 1, 0}, {24, 1, 0}, {0, -1, 1}, {0, 5, 0}, {0, 1, -1}, {0, 1, 5}, {Integer.MAX_VALUE, 1, 0},
            {Integer.MIN_VALUE, 1, 0}, {0, Integer.MAX_VALUE, 0}, {0, 0, Integer.MIN_VALUE}};
        for (int[] w : wrong) {
            for (int garment = 0; garment < 3; garment++) {
                int asked = garment;
                DUE.refused("hangObstacle " + garment + " " + w[0] + " " + w[1] + " " + w[2], Due.NO_ARGUMENT,
                        Scenes::busy, line -> line.hangObstacle(asked, w[0], w[1], w[2]));
            }
        }
    }

    /** "If several exceptions apply to a call, the one that is listed first is thrown." */
    static void p37NoSuchGarmentBeforeOutOfRange() {
        DUE.refused("spot", Due.NO_INDEX, Scenes::busy, line -> line.hangObstacle(4, 24, 1, 0));
        DUE.refused("wooden", Due.NO_INDEX, Scenes::busy, line -> line.hangObstacle(-1, 0, 5, 0));
        DUE.refused("steel", Due.NO_INDEX, Scenes::busy, line -> line.hangObstacle(4, 0, 0, -1));
    }

    // ---- fewest pegs

    private static int fewest(int wooden, int steel, int weight) {
        return bag(wooden, steel, weight).fewestPegs(0);
    }

    /** "the smallest number of pegs, 1 to 4": the last weight for each number, and the one above it */
    static void p38From1To4() {
        DUE.is("1", fewest(9, 9, 1), 1);
        DUE.is("45", fewest(9, 9, 45), 1);
        DUE.is("46", fewest(9, 9, 46), 2);
        DUE.is("90", fewest(9, 9, 90), 2);
        DUE.is("91", fewest(9, 9, 91), 3);
        DUE.is("wooden: 20", fewest(9, 0, 20), 1);
        DUE.is("wooden: 21", fewest(9, 0, 21), 2);
        DUE.is("wooden: 40", fewest(9, 0, 40), 2);
        DUE.is("wooden: 41", fewest(9, 0, 41), 3);
        DUE.is("wooden: 60", fewest(9, 0, 60), 3);
        DUE.is("wooden: 61", fewest(9, 0, 61), 4);
        DUE.is("wooden: 80", fewest(9, 0, 80), 4);
    }

    /** "NONE if there is none": five pegs would do */
    static void p38NoneIf4PegsAreTooFew() {
        DUE.is("wooden: 81", fewest(9, 0, 81), -1);
        DUE.is("steel: 180", Due.lineOf("line 9 9 0;wind 0;garment 1 99 999 819;").fewestPegs(0), 4);
        DUE.is("steel: 181", Due.lineOf("line 9 9 0;wind 0;garment 1 99 999 820;").fewestPegs(0), -1);
    }

    /** "pegs of the bag" */
    static void p38TheBagHasTooFew() {
        DUE.is("none", fewest(0, 0, 1), -1);
        DUE.is("one wooden, 20", fewest(1, 0, 20), 1);
        DUE.is("one wooden, 21", fewest(1, 0, 21), -1);
        DUE.is("one steel, 45", fewest(0, 1, 45), 1);
        DUE.is("one steel, 46", fewest(0, 1, 46), -1);
        DUE.is("three steel, 99", fewest(0, 3, 99), 3);
        DUE.is("two steel, 99", fewest(0, 2, 99), -1);
    }

    static void p38BothKindsTogether() {
        DUE.is("one and one, 65", fewest(1, 1, 65), 2);
        DUE.is("one and one, 66", fewest(1, 1, 66), -1);
        DUE.is("two and one, 85", fewest(2, 1, 85), 3);
        DUE.is("two and one, 86", fewest(2, 1, 86), -1);
        DUE.is("three and one, 99", fewest(3, 1, 99), 4);
        DUE.is("two and two, 99", fewest(2, 2, 99), 3);
    }

    static void p38TheWaterWeighs() {
        DUE.is("20 with water 9", Due.lineOf("line 9 0 0;wind 0;garment 1 20 99 9;").fewestPegs(0), 1);
        DUE.is("21 with water 10", Due.lineOf("line 9 0 0;wind 0;garment 1 20 99 10;").fewestPegs(0), 2);
    }

    static void p38WhateverTheStateIs() {
        ClothesLine line = new ClothesLine();
        DUE.is("on the line, with one steel peg in the bag", line.fewestPegs(0), 1);
        DUE.is("on the line, and its own pegs are not in the bag", line.fewestPegs(2), 3);
        DUE.is("on the ground", Scenes.fallen().fewestPegs(0), 1);
    }

    static void p38NothingChanges() {
        DUE.changesNothing("fewestPegs", Scenes::busy, line -> line.fewestPegs(2));
    }

    static void p38NoSuchGarment() {
        DUE.is("the tenth", Scenes.full().fewestPegs(9), 1);
        DUE.refusesOtherGarments("fewestPegs", ClothesLine::fewestPegs);
    }
}
