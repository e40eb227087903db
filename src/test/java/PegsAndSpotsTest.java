/** Promises 15 to 20: pegs and spots. */
public final class PegsAndSpotsTest {
    private static final int ALL = 0xFFFFFF;
    private static final Due DUE = new Due("PegsAndSpotsTest");

    public static void main(String[] args) {
        DUE.everyTestOf(PegsAndSpotsTest.class);
    }

    private static ClothesLine fivePegsAndFour() {
        return Due.lineOf("line 5 4 0;wind 0;garment 1 9 990 0;garment 1 9 990 0;shower 0 20 20;");
    }

    // ---- pegs

    /** "Returns 0 to 30" */
    static void p15From0To30() {
        DUE.is("none", Due.lineOf("line 0 30 0;wind 0;").woodenLeft(), 0);
        DUE.is("thirty", Due.lineOf("line 30 0 0;wind 0;").woodenLeft(), 30);
    }

    static void p15TheLastPegOfTheBag() {
        ClothesLine line = Due.lineOf("line 4 0 0;wind 0;garment 1 9 9 0;hang 0 0 4 0;");
        DUE.is("none is left", line.woodenLeft(), 0);
        line.takeDown(0);
        DUE.is("all are back", line.woodenLeft(), 4);
    }

    /** "The pegs that hold no garment are left in a bag." */
    static void p15PegsThatHoldAGarmentAreNotInTheBag() {
        ClothesLine line = fivePegsAndFour();
        DUE.is("none hung", line.woodenLeft(), 5);
        line.hang(0, 0, 3, 1);
        DUE.is("less 3", line.woodenLeft(), 2);
        line.hang(1, 1, 1, 0);
        DUE.is("less 4", line.woodenLeft(), 1);
        line.shift(0, 9);
        DUE.is("shifted with the same pegs", line.woodenLeft(), 1);
        line.takeDown(0);
        DUE.is("3 are back", line.woodenLeft(), 4);
        line.undo();
        DUE.is("undone", line.woodenLeft(), 1);
    }

    /** "its pegs go back into the bag" */
    static void p15PegsOfAFallenGarmentGoBack() {
        ClothesLine line = fivePegsAndFour();
        line.hang(1, 1, 1, 0);
        line.passMinutes(5);
        DUE.is("it hangs", line.woodenLeft(), 4);
        line.passMinutes(1);
        DUE.is("it has fallen", line.woodenLeft(), 5);
        line.pickUp(1);
        DUE.is("picked up", line.woodenLeft(), 5);
    }

    /** "Returns 0 to 30" */
    static void p16From0To30() {
        DUE.is("none", Due.lineOf("line 30 0 0;wind 0;").steelLeft(), 0);
        DUE.is("thirty", Due.lineOf("line 0 30 0;wind 0;").steelLeft(), 30);
    }

    static void p16TheLastPegOfTheBag() {
        ClothesLine line = Due.lineOf("line 0 4 0;wind 0;garment 1 9 9 0;hang 0 0 0 4;");
        DUE.is("none is left", line.steelLeft(), 0);
        line.takeDown(0);
        DUE.is("all are back", line.steelLeft(), 4);
    }

    /** "The pegs that hold no garment are left in a bag." */
    static void p16PegsThatHoldAGarmentAreNotInTheBag() {
        ClothesLine line = fivePegsAndFour();
        DUE.is("none hung", line.steelLeft(), 4);
        line.hang(0, 0, 1, 3);
        DUE.is("less 3", line.steelLeft(), 1);
        line.hang(1, 1, 2, 1);
        DUE.is("less 4", line.steelLeft(), 0);
        line.shift(0, 9);
        DUE.is("shifted with the same pegs", line.steelLeft(), 0);
        line.takeDown(0);
        DUE.is("3 are back", line.steelLeft(), 3);
        line.undo();
        DUE.is("undone", line.steelLeft(), 0);
    }

    /** "its pegs go back into the bag" */
    static void p16PegsOfAFallenGarmentGoBack() {
        ClothesLine line = fivePegsAndFour();
        line.hang(1, 1, 0, 1);
        line.passMinutes(18);
        DUE.is("it hangs", line.steelLeft(), 3);
        line.passMinutes(1);
        DUE.is("it has fallen", line.steelLeft(), 4);
        line.pickUp(1);
        DUE.is("picked up", line.steelLeft(), 4);
    }

    // ---- free spots

    static void p17AllSpots() {
        DUE.is("without garments", Scenes.empty().freeSpots(), ALL);
        DUE.is("none on the line", Due.lineOf("line 0 0 0;wind 0;garment 6 1 1 0;").freeSpots(), ALL);
    }

    static void p17NoSpot() {
        DUE.is("four of six", Scenes.hung(6).freeSpots(), 0);
    }

    /** "the spots that no garment occupies": the first and the last one, and the ends of a garment */
    static void p17TheSpotsThatNoGarmentOccupies() {
        ClothesLine line = Due.lineOf("line 9 9 0;wind 0;garment 6 1 1 0;garment 1 1 1 0;hang 0 18 1 0;");
        DUE.is("0 to 17", line.freeSpots(), 0x3FFFF);
        line.hang(1, 0, 1, 0);
        DUE.is("1 to 17", line.freeSpots(), 0x3FFFE);
        line.shift(0, 1);
        DUE.is("7 to 23", line.freeSpots(), 0xFFFF80);
        line.shift(1, 23);
        DUE.is("0, and 7 to 22", line.freeSpots(), 0x7FFF81);
        line.takeDown(0);
        DUE.is("0 to 22", line.freeSpots(), 0x7FFFFF);
    }

    /** "bit i stands for the spot ... with the number i" */
    static void p17BitIStandsForTheSpotI() {
        ClothesLine line = Due.lineOf("line 9 9 0;wind 0;garment 1 1 1 0;hang 0 0 1 0;");
        for (int spot = 0; spot < 24; spot++) {
            line.shift(0, spot);
            DUE.is("all but " + spot, line.freeSpots(), ALL - (1 << spot));
        }
    }

    static void p17AFallenGarmentOccupiesNone() {
        ClothesLine line = Due.lineOf("line 9 9 0;wind 0;garment 3 20 99 0;hang 0 4 1 0;shower 0 1 4;");
        DUE.is("it hangs", line.freeSpots(), ALL & ~0x70);
        line.passMinutes(1);
        DUE.is("it has fallen", line.freeSpots(), ALL);
    }

    // ---- longest gap

    static void p18TheWholeLine() {
        DUE.is("gap", Scenes.empty().longestGap(), 24);
    }

    static void p18NoGap() {
        DUE.is("gap", Scenes.hung(6).longestGap(), 0);
    }

    /** "the longest row of free spots": at the begin, between, at the end */
    static void p18WhereverItIs() {
        ClothesLine line = Due.lineOf("line 9 9 0;wind 0;garment 6 1 1 0;garment 6 1 1 0;garment 6 1 1 0;hang 0 18 1 0;");
        DUE.is("at the begin", line.longestGap(), 18);
        line.hang(1, 1, 1, 0);
        DUE.is("between", line.longestGap(), 11);
        line.shift(1, 0);
        line.hang(2, 6, 1, 0);
        DUE.is("of six", line.longestGap(), 6);
        line.shift(0, 13);
        DUE.is("at the end", line.longestGap(), 5);
    }

    static void p18ARowDoesNotGoOnBehindSpot23() {
        ClothesLine line = Due.lineOf("line 9 9 0;wind 0;garment 6 1 1 0;hang 0 10 1 0;");
        DUE.is("10 before, 8 behind", line.longestGap(), 10);
    }

    static void p18OneSpot() {
        ClothesLine line = Due.lineOf("line 9 9 0;wind 0;garment 6 1 1 0;garment 6 1 1 0;garment 6 1 1 0;garment 5 1 1 0;"
                + "hang 0 0 1 0;hang 1 6 1 0;hang 2 12 1 0;hang 3 18 1 0;");
        DUE.is("the last", line.longestGap(), 1);
        line.shift(3, 19);
        DUE.is("between two", line.longestGap(), 1);
    }

    // ---- garment at a spot

    /** "NONE if the spot is free" */
    static void p19EachSpotOfTheNewLine() {
        ClothesLine line = new ClothesLine();
        int[] due = {-1, -1, 0, 0, 0, -1, -1, -1, 1, -1, -1, -1, 2, 2, 2, 2, 2, -1, -1, -1, -1, -1, -1, -1};
        for (int spot = 0; spot < 24; spot++) {
            DUE.is("garmentAt " + spot, line.garmentAt(spot), due[spot]);
        }
    }

    /** "On the line it occupies as many consecutive spots as its width tells; its spot is the first of these." */
    static void p19AsManySpotsAsItsWidthTells() {
        for (int width = 1; width <= 6; width++) {
            for (int first = 0; first + width <= 24; first++) {
                ClothesLine line = Due.lineOf("line 9 9 0;wind 0;garment " + width + " 1 1 0;hang 0 " + first + " 1 0;");
                for (int spot = 0; spot < 24; spot++) {
                    boolean occupied = spot >= first && spot < first + width;
                    DUE.is("width " + width + " from " + first + " at " + spot, line.garmentAt(spot), occupied ? 0 : -1);
                }
            }
        }
    }

    /** "spot: 0 to 23" */
    static void p19From0To23() {
        ClothesLine line = Scenes.hung(6);
        DUE.is("0", line.garmentAt(0), 0);
        DUE.is("23", line.garmentAt(23), 3);
        for (int spot : new int[] {-1, 24, 32, Integer.MIN_VALUE, Integer.MAX_VALUE}) {
            DUE.refused("garmentAt " + spot, Due.NO_ARGUMENT, Scenes::busy, one -> one.garmentAt(spot));
        }
    }

    static void p19TheTenthGarment() {
        ClothesLine line = Scenes.hung(2);
        DUE.is("17", line.garmentAt(17), 8);
        DUE.is("18", line.garmentAt(18), 9);
        DUE.is("19", line.garmentAt(19), 9);
        DUE.is("20", line.garmentAt(20), -1);
    }

    static void p19AGarmentThatLeftTheLine() {
        ClothesLine line = Scenes.busy();
        DUE.is("fallen from the spot 0", line.garmentAt(0), -1);
        line.takeDown(1);
        DUE.is("taken", line.garmentAt(4), -1);
        ClothesLine shifted = Scenes.busy();
        shifted.shift(1, 5);
        DUE.is("shifted away", shifted.garmentAt(4), -1);
        DUE.is("shifted there", shifted.garmentAt(6), 1);
    }

    // ---- garment by its place

    /** "0 for the garment with the smallest spot, 1 for the next one, and so on" */
    static void p20InTheOrderOfTheSpots() {
        ClothesLine line = new ClothesLine();
        line.hang(3, 0, 1, 0);
        line.shift(0, 21);
        int[] due = {3, 1, 2, 0};
        for (int place = 0; place < 4; place++) {
            DUE.is("garmentByPlace " + place, line.garmentByPlace(place), due[place]);
        }
    }

    /** "NONE if there is no such place" */
    static void p20NoneBeyondTheLastPlace() {
        ClothesLine line = new ClothesLine();
        DUE.is("the last", line.garmentByPlace(2), 2);
        DUE.is("beyond", line.garmentByPlace(3), -1);
        DUE.is("24", line.garmentByPlace(24), -1);
        DUE.is("the largest", line.garmentByPlace(Integer.MAX_VALUE), -1);
    }

    static void p20NoneBelow0() {
        DUE.is("-1", new ClothesLine().garmentByPlace(-1), -1);
        DUE.is("the smallest", new ClothesLine().garmentByPlace(Integer.MIN_VALUE), -1);
    }

    static void p20NoneOnTheLine() {
        DUE.is("no garment", Scenes.empty().garmentByPlace(0), -1);
        DUE.is("in the basket", Due.lineOf("line 0 0 0;wind 0;garment 1 1 1 1;").garmentByPlace(0), -1);
        DUE.is("on the ground", Due.lineOf("line 9 9 0;wind 0;garment 1 20 99 9;hang 0 0 1 0;shower 0 1 1;minutes 1;")
                .garmentByPlace(0), -1);
    }

    static void p20TenOnTheLine() {
        ClothesLine line = Scenes.hung(2);
        for (int place = 0; place < 10; place++) {
            DUE.is("garmentByPlace " + place, line.garmentByPlace(place), place);
        }
        DUE.is("garmentByPlace 10", line.garmentByPlace(10), -1);
    }

    static void p20AtBothEndsOfTheLine() {
        ClothesLine line = Due.lineOf("line 9 9 0;wind 0;garment 1 1 1 0;garment 1 1 1 0;hang 1 0 1 0;hang 0 23 1 0;");
        DUE.is("at the spot 0", line.garmentByPlace(0), 1);
        DUE.is("at the spot 23", line.garmentByPlace(1), 0);
        DUE.is("no more", line.garmentByPlace(2), -1);
    }

    static void p20SideBySide() {
        ClothesLine line = Due.lineOf("line 9 9 0;wind 0;garment 2 1 1 0;garment 3 1 1 0;hang 1 2 1 0;hang 0 0 1 0;");
        DUE.is("the first", line.garmentByPlace(0), 0);
        DUE.is("the second", line.garmentByPlace(1), 1);
        DUE.is("no more", line.garmentByPlace(2), -1);
    }
}
