/** Promises 21 to 36: what garments are. Whether one can be hung is in HangingTest, what minutes do to it in MinutesTest. */
public final class GarmentsTest {
    private static final Due DUE = new Due("GarmentsTest");

    public static void main(String[] args) {
        DUE.everyTestOf(GarmentsTest.class);
    }

    /** A garment in the basket, of this dry weight and water. */
    private static ClothesLine garment(int weight, int water) {
        return Due.lineOf("line 9 9 0;wind 0;garment 1 " + weight + " 999 " + water + ";");
    }

    /** A garment of weight 1 on the line, with these pegs. */
    private static ClothesLine pegged(int wooden, int steel) {
        return Due.lineOf("line 9 9 0;wind 0;garment 1 1 9 0;hang 0 7 " + wooden + " " + steel + ";");
    }

    // ---- count

    /** "There are at most 10 garments" */
    static void p21From0To10() {
        ClothesLine line = Scenes.empty();
        for (int count = 0; count < 10; count++) {
            DUE.is("count", line.garmentCount(), count);
            line.addGarment(1, 1, 1, 1);
        }
        DUE.is("ten", line.garmentCount(), 10);
        DUE.throwsIt("the 11th", Due.NO_STATE, () -> line.addGarment(1, 1, 1, 1));
        DUE.is("still ten", line.garmentCount(), 10);
    }

    static void p21GarmentsInEachStateCount() {
        DUE.is("new", new ClothesLine().garmentCount(), 4);
        DUE.is("busy", Scenes.busy().garmentCount(), 4);
    }

    // ---- of each garment

    /** "with the indices 0, 1, 2 and so on, in the order in which they were added" */
    static void p22EachGarmentOfTheNewLine() {
        ClothesLine line = new ClothesLine();
        int[][] due = {
            {1, 3, 12, 200, 155, 27, 0, 2, 2, 0, 40, 0},
            {1, 1, 4, 60, 10, 5, 0, 8, 1, 0, 20, 0},
            {1, 5, 40, 600, 350, 75, 0, 12, 1, 2, 110, 0},
            {0, 2, 9, 90, 0, 9, 0, -1, 0, 0, 0, 0}};
        for (int g = 0; g < 4; g++) {
            DUE.is("stateOf " + g, line.stateOf(g), due[g][0]);
            DUE.is("widthOf " + g, line.widthOf(g), due[g][1]);
            DUE.is("dryWeight " + g, line.dryWeight(g), due[g][2]);
            DUE.is("capacityOf " + g, line.capacityOf(g), due[g][3]);
            DUE.is("waterOf " + g, line.waterOf(g), due[g][4]);
            DUE.is("weightOf " + g, line.weightOf(g), due[g][5]);
            DUE.is("smellOf " + g, line.smellOf(g), due[g][6]);
            DUE.is("spotOf " + g, line.spotOf(g), due[g][7]);
            DUE.is("woodenOf " + g, line.woodenOf(g), due[g][8]);
            DUE.is("steelOf " + g, line.steelOf(g), due[g][9]);
            DUE.is("holdOf " + g, line.holdOf(g), due[g][10]);
            DUE.is("fallsOf " + g, line.fallsOf(g), due[g][11]);
            DUE.is("isDirty " + g, line.isDirty(g), false);
        }
    }

    /** "Returns BASKET, LINE or GROUND." */
    static void p22BasketLineOrGround() {
        ClothesLine line = Scenes.fallen();
        DUE.is("on the ground", line.stateOf(0), ClothesLine.GROUND);
        DUE.is("on the line", line.stateOf(2), ClothesLine.LINE);
        DUE.is("in the basket", line.stateOf(3), ClothesLine.BASKET);
        line.pickUp(0);
        DUE.is("picked up", line.stateOf(0), ClothesLine.BASKET);
        line.takeDown(2);
        DUE.is("taken down", line.stateOf(2), ClothesLine.BASKET);
        line.hang(0, 9, 1, 3);
        DUE.is("hung again", line.stateOf(0), ClothesLine.LINE);
    }

    static void p22NoSuchGarment() {
        DUE.is("the tenth", Scenes.full().stateOf(9), ClothesLine.BASKET);
        DUE.refusesOtherGarments("stateOf", ClothesLine::stateOf);
    }

    /** "a width (1 to 6 spots)" */
    static void p23From1To6() {
        for (int width = 1; width <= 6; width++) {
            DUE.is("width", Due.lineOf("line 0 0 0;wind 0;garment " + width + " 9 9 9;").widthOf(0), width);
        }
    }

    static void p23NoSuchGarment() {
        DUE.is("the tenth", Scenes.full().widthOf(9), 1);
        DUE.refusesOtherGarments("widthOf", ClothesLine::widthOf);
    }

    /** "a dry weight (1 to 99)" */
    static void p24From1To99() {
        DUE.is("1", garment(1, 999).dryWeight(0), 1);
        DUE.is("99", garment(99, 999).dryWeight(0), 99);
    }

    static void p24NoSuchGarment() {
        DUE.is("the tenth", Scenes.full().dryWeight(9), 20);
        DUE.refusesOtherGarments("dryWeight", ClothesLine::dryWeight);
    }

    /** "a capacity (1 to 999)" */
    static void p25From1To999() {
        DUE.is("1", Due.lineOf("line 0 0 0;wind 0;garment 2 3 1 0;").capacityOf(0), 1);
        DUE.is("999", Due.lineOf("line 0 0 0;wind 0;garment 2 3 999 0;").capacityOf(0), 999);
    }

    static void p25NoSuchGarment() {
        DUE.is("the tenth", Scenes.full().capacityOf(9), 99);
        DUE.refusesOtherGarments("capacityOf", ClothesLine::capacityOf);
    }

    /** "water (0 to the capacity)" */
    static void p26From0ToTheCapacity() {
        DUE.is("0", garment(1, 0).waterOf(0), 0);
        DUE.is("the capacity", garment(1, 999).waterOf(0), 999);
    }

    static void p26NoSuchGarment() {
        DUE.is("the tenth", Scenes.full().waterOf(9), 9);
        DUE.refusesOtherGarments("waterOf", ClothesLine::waterOf);
    }

    /** "the dry weight plus a tenth of its water, rounded down" */
    static void p27ATenthOfTheWaterRoundedDown() {
        int[][] due = {{0, 5}, {1, 5}, {9, 5}, {10, 6}, {19, 6}, {20, 7}, {99, 14}, {100, 15}, {999, 104}};
        for (int[] waterAndWeight : due) {
            DUE.is("weight with water " + waterAndWeight[0], garment(5, waterAndWeight[0]).weightOf(0), waterAndWeight[1]);
        }
    }

    static void p27TheHeaviestAndTheLightest() {
        DUE.is("the heaviest", garment(99, 999).weightOf(0), 198);
        DUE.is("the lightest", garment(1, 9).weightOf(0), 1);
    }

    static void p27TheWeightChangesWithTheWater() {
        ClothesLine line = new ClothesLine();
        line.wash(3);
        DUE.is("washed", line.weightOf(3), 18);
        line.passMinutes(1);
        DUE.is("dried", line.weightOf(1), 4);
    }

    static void p27NoSuchGarment() {
        DUE.is("the tenth", Scenes.full().weightOf(9), 20);
        DUE.refusesOtherGarments("weightOf", ClothesLine::weightOf);
    }

    /** "a smell (0 at first)" */
    static void p28At0AtFirst() {
        DUE.is("smell", garment(5, 5).smellOf(0), 0);
    }

    /** "Returns 0 to 99." */
    static void p28From0To99() {
        ClothesLine line = Due.lineOf("line 9 9 0;wind 1;garment 6 1 1 0;hang 0 3 1 0;smoke 0 200;minutes 98;");
        DUE.is("98", line.smellOf(0), 98);
        line.passMinutes(1);
        DUE.is("99", line.smellOf(0), 99);
        line.passMinutes(1);
        DUE.is("at most 99", line.smellOf(0), 99);
        line.passMinutes(101);
        DUE.is("99 to the last minute of the smoke", line.smellOf(0), 99);
        line.passMinutes(1);
        DUE.is("then 98", line.smellOf(0), 98);
        line.passMinutes(97);
        DUE.is("1", line.smellOf(0), 1);
        line.passMinutes(1);
        DUE.is("0", line.smellOf(0), 0);
        line.passMinutes(1);
        DUE.is("not below 0", line.smellOf(0), 0);
    }

    static void p28NoSuchGarment() {
        DUE.is("the tenth", Scenes.full().smellOf(9), 0);
        DUE.refusesOtherGarments("smellOf", ClothesLine::smellOf);
    }

    /** "its spot is the first of these"; "Returns 0 to 23" */
    static void p29From0To23() {
        ClothesLine line = pegged(1, 0);
        DUE.is("7", line.spotOf(0), 7);
        line.shift(0, 0);
        DUE.is("0", line.spotOf(0), 0);
        line.shift(0, 23);
        DUE.is("23", line.spotOf(0), 23);
    }

    /** "NONE if it is not on the line" */
    static void p29NoneIfItIsNotOnTheLine() {
        ClothesLine line = Scenes.fallen();
        DUE.is("on the ground", line.spotOf(0), -1);
        DUE.is("in the basket", line.spotOf(3), -1);
        line.pickUp(0);
        DUE.is("picked up", line.spotOf(0), -1);
        line.takeDown(2);
        DUE.is("taken down", line.spotOf(2), -1);
    }

    static void p29NoSuchGarment() {
        DUE.is("the tenth", Scenes.hung(2).spotOf(9), 18);
        DUE.refusesOtherGarments("spotOf", ClothesLine::spotOf);
    }

    /** "Returns 0 to 4" */
    static void p30From0To4() {
        DUE.is("0", pegged(0, 1).woodenOf(0), 0);
        DUE.is("1", pegged(1, 0).woodenOf(0), 1);
        DUE.is("4", pegged(4, 0).woodenOf(0), 4);
    }

    /** "0 if it is not on the line" */
    static void p30NoneIfItIsNotOnTheLine() {
        ClothesLine line = Scenes.fallen();
        DUE.is("on the ground", line.woodenOf(0), 0);
        DUE.is("in the basket", line.woodenOf(3), 0);
        line.takeDown(2);
        DUE.is("taken down", line.woodenOf(2), 0);
    }

    static void p30NoSuchGarment() {
        DUE.is("the tenth", Scenes.hung(2).woodenOf(9), 1);
        DUE.refusesOtherGarments("woodenOf", ClothesLine::woodenOf);
    }

    /** "Returns 0 to 4" */
    static void p31From0To4() {
        DUE.is("0", pegged(1, 0).steelOf(0), 0);
        DUE.is("1", pegged(0, 1).steelOf(0), 1);
        DUE.is("4", pegged(0, 4).steelOf(0), 4);
    }

    /** "0 if it is not on the line" */
    static void p31NoneIfItIsNotOnTheLine() {
        ClothesLine line = Due.lineOf("line 9 9 0;wind 0;garment 1 45 99 9;garment 1 1 9 0;hang 0 0 0 1;hang 1 1 0 2;"
                + "shower 0 1 1;minutes 1;");
        DUE.is("on the ground", line.stateOf(0) * 10 + line.steelOf(0), 20);
        line.takeDown(1);
        DUE.is("taken down", line.steelOf(1), 0);
        DUE.is("in the basket", Scenes.fallen().steelOf(3), 0);
    }

    static void p31NoSuchGarment() {
        DUE.is("the tenth", Scenes.full().steelOf(9), 0);
        DUE.is("the second", Scenes.full().steelOf(1), 1);
        DUE.refusesOtherGarments("steelOf", ClothesLine::steelOf);
    }

    /** "wooden pegs, which hold 20 each, and steel pegs, which hold 45 each"; "its hold is the sum" */
    static void p32TheSumOfWhatThePegsHold() {
        for (int wooden = 0; wooden <= 4; wooden++) {
            for (int steel = wooden == 0 ? 1 : 0; wooden + steel <= 4; steel++) {
                DUE.is("hold of " + wooden + " and " + steel, pegged(wooden, steel).holdOf(0), 20 * wooden + 45 * steel);
            }
        }
    }

    /** "0 if it is not on the line" */
    static void p32NoneIfItIsNotOnTheLine() {
        ClothesLine line = Scenes.fallen();
        DUE.is("on the ground", line.holdOf(0), 0);
        DUE.is("in the basket", line.holdOf(3), 0);
        line.takeDown(2);
        DUE.is("taken down", line.holdOf(2), 0);
    }

    static void p32NoSuchGarment() {
        DUE.is("the tenth", Scenes.hung(2).holdOf(9), 20);
        DUE.refusesOtherGarments("holdOf", ClothesLine::holdOf);
    }

    /** "Returns how often it has fallen." */
    static void p33HowOftenItHasFallen() {
        ClothesLine line = Due.lineOf("line 9 9 0;wind 0;garment 1 20 99 9;garment 1 1 1 1;hang 0 0 1 0;shower 0 90 1;");
        DUE.is("never", line.fallsOf(0), 0);
        line.passMinutes(1);
        DUE.is("once", line.fallsOf(0), 1);
        line.passMinutes(1);
        DUE.is("once, on the ground", line.fallsOf(0), 1);
        line.pickUp(0);
        line.wash(0);
        DUE.is("once, washed", line.fallsOf(0), 1);
        line.hang(0, 0, 0, 1);
        line.takeDown(0);
        DUE.is("taking down is no fall", line.fallsOf(0), 1);
        DUE.is("the other", line.fallsOf(1), 0);
    }

    static void p33FallenTwice() {
        ClothesLine line = Due.lineOf("line 9 9 0;wind 0;garment 1 20 40 9;hang 0 0 1 0;shower 0 1 1;shower 9 90 1;minutes 1;");
        line.pickUp(0);
        line.hang(0, 0, 0, 1);
        line.passMinutes(5);
        DUE.is("dried to 5", line.waterOf(0), 5);
        line.takeDown(0);
        line.hang(0, 0, 1, 0);
        line.passMinutes(10);
        DUE.is("once, and water 9", line.fallsOf(0) * 10 + line.waterOf(0), 19);
        DUE.is("again", line.passMinutes(1), 1);
        DUE.is("twice", line.fallsOf(0), 2);
    }

    static void p33NoSuchGarment() {
        DUE.is("the tenth", Scenes.full().fallsOf(9), 0);
        DUE.is("the first", Scenes.full().fallsOf(0), 1);
        DUE.refusesOtherGarments("fallsOf", ClothesLine::fallsOf);
    }

    /** "may be dirty (it is clean at first)" */
    static void p34CleanAtFirst() {
        DUE.is("dirty", garment(5, 5).isDirty(0), false);
    }

    static void p34DirtyFromTheFallToTheWashing() {
        ClothesLine line = Scenes.fallen();
        DUE.is("fallen", line.isDirty(0), true);
        DUE.is("on the line", line.isDirty(2), false);
        line.pickUp(0);
        DUE.is("picked up", line.isDirty(0), true);
        line.hang(0, 9, 1, 3);
        DUE.is("hung", line.isDirty(0), true);
        line.takeDown(0);
        DUE.is("taken down", line.isDirty(0), true);
        line.wash(0);
        DUE.is("washed", line.isDirty(0), false);
    }

    static void p34NoSuchGarment() {
        DUE.is("the tenth", Scenes.full().isDirty(9), false);
        DUE.refusesOtherGarments("isDirty", ClothesLine::isDirty);
    }

    // ---- sets of garments

    /** "Returns the garments in a state." */
    static void p35TheGarmentsInAState() {
        ClothesLine line = Scenes.fallen();
        DUE.is("basket", line.garmentsIn(ClothesLine.BASKET), 8);
        DUE.is("line", line.garmentsIn(ClothesLine.LINE), 4);
        DUE.is("ground", line.garmentsIn(ClothesLine.GROUND), 3);
    }

    /** "bit i stands for ... the garment with the number i" */
    static void p35BitIStandsForTheGarmentI() {
        for (int garment = 0; garment < 10; garment++) {
            ClothesLine line = Due.lineOf("line 9 9 0;wind 0;" + "garment 1 20 99 9;".repeat(10) + "shower 0 1 1;");
            line.hang(garment, 5, 1, 0);
            DUE.is("line " + garment, line.garmentsIn(ClothesLine.LINE), 1 << garment);
            DUE.is("all but " + garment, line.garmentsIn(ClothesLine.BASKET), 1023 - (1 << garment));
            line.passMinutes(1);
            DUE.is("ground " + garment, line.garmentsIn(ClothesLine.GROUND), 1 << garment);
            DUE.is("fallen from the line " + garment, line.garmentsIn(ClothesLine.LINE), 0);
        }
    }

    static void p35NoneAndTen() {
        for (int state = 0; state <= 2; state++) {
            DUE.is("no garment " + state, Scenes.empty().garmentsIn(state), 0);
        }
        ClothesLine line = Scenes.hung(2);
        DUE.is("ten on the line", line.garmentsIn(ClothesLine.LINE), 1023);
        DUE.is("none in the basket", line.garmentsIn(ClothesLine.BASKET), 0);
        DUE.is("none on the ground", line.garmentsIn(ClothesLine.GROUND), 0);
        DUE.is("eight in the basket", Scenes.full().garmentsIn(ClothesLine.BASKET), 1020);
    }

    /** "Throws IllegalArgumentException if state is out of range" */
    static void p35OtherStates() {
        for (int state : new int[] {-1, 3, Integer.MIN_VALUE, Integer.MAX_VALUE}) {
            DUE.refused("garmentsIn " + state, Due.NO_ARGUMENT, Scenes::busy, line -> line.garmentsIn(state));
        }
    }

    /** "the garments without water, whatever their states are" */
    static void p36WhateverTheirStatesAre() {
        ClothesLine line = Due.lineOf("line 9 9 0;wind 5;garment 1 21 9 0;garment 1 1 9 0;garment 1 1 9 0;garment 1 1 9 1;"
                + "garment 1 1 9 1;hang 0 0 0 1;hang 1 1 1 0;hang 3 3 1 0;minutes 1;");
        DUE.is("on the line and in the basket", line.dryGarments(), 15);
    }

    /** A garment on the ground is never dry: without its water its pegs would have held it. */
    static void p36OnTheGroundTheyAreWet() {
        DUE.is("two on the ground, and one dry in the basket", Scenes.fallen().dryGarments(), 8);
    }

    /** "bit i stands for ... the garment with the number i" */
    static void p36BitIStandsForTheGarmentI() {
        for (int garment = 0; garment < 10; garment++) {
            ClothesLine line = Due.lineOf("line 0 0 0;wind 0;" + "garment 1 1 9 1;".repeat(garment) + "garment 1 1 9 0;"
                    + "garment 1 1 9 1;".repeat(9 - garment));
            DUE.is("dry " + garment, line.dryGarments(), 1 << garment);
        }
    }

    static void p36NoneAndAll() {
        DUE.is("no garment", Scenes.empty().dryGarments(), 0);
        DUE.is("all ten", Scenes.hung(2).dryGarments(), 1023);
        DUE.is("none of ten", Scenes.full().dryGarments(), 0);
    }

    static void p36WaterOf1IsWater() {
        DUE.is("0", garment(1, 0).dryGarments(), 1);
        DUE.is("1", garment(1, 1).dryGarments(), 0);
    }

    static void p36WashedAndDried() {
        ClothesLine line = new ClothesLine();
        DUE.is("in the basket", line.dryGarments(), 8);
        line.passMinutes(5);
        DUE.is("dried", line.dryGarments(), 10);
        line.wash(3);
        DUE.is("washed", line.dryGarments(), 2);
    }
}
