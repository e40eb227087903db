import java.util.function.Supplier;

/** Promises 51 to 59: changes. What minutes do is in MinutesTest. */
public final class ChangesTest {
    private static final Due DUE = new Due("ChangesTest");

    public static void main(String[] args) {
        DUE.everyTestOf(ChangesTest.class);
    }

    // ---- addGarment

    /** "Returns the index of the garment." */
    static void p51AnswersTheIndex() {
        ClothesLine line = Scenes.empty();
        for (int index = 0; index < 10; index++) {
            DUE.is("index", line.addGarment(1, 1, 1, 0), index);
        }
    }

    /** "a new garment is in the basket"; "a smell (0 at first)"; "clean at first" */
    static void p51ANewGarmentIsInTheBasket() {
        ClothesLine line = new ClothesLine();
        DUE.is("index", line.addGarment(2, 3, 5, 4), 4);
        DUE.is("state", line.stateOf(4), ClothesLine.BASKET);
        DUE.is("width", line.widthOf(4), 2);
        DUE.is("weight", line.dryWeight(4), 3);
        DUE.is("capacity", line.capacityOf(4), 5);
        DUE.is("water", line.waterOf(4), 4);
        DUE.is("smell", line.smellOf(4), 0);
        DUE.is("dirty", line.isDirty(4), false);
        DUE.is("falls", line.fallsOf(4), 0);
        DUE.is("spot", line.spotOf(4), -1);
        DUE.is("hold", line.holdOf(4), 0);
    }

    /** "width: 1 to 6" */
    static void p51WidthFrom1To6() {
        DUE.is("1", Scenes.busy().addGarment(1, 9, 9, 9), 4);
        DUE.is("6", Scenes.busy().addGarment(6, 9, 9, 9), 4);
        for (int width : new int[] {0, 7, -1, Integer.MIN_VALUE, Integer.MAX_VALUE}) {
            DUE.refused("width " + width, Due.NO_ARGUMENT, Scenes::busy, line -> line.addGarment(width, 9, 9, 9));
        }
    }

    /** "weight: the dry weight, 1 to 99" */
    static void p51WeightFrom1To99() {
        DUE.is("1", Scenes.busy().addGarment(3, 1, 9, 9), 4);
        DUE.is("99", Scenes.busy().addGarment(3, 99, 9, 9), 4);
        for (int weight : new int[] {0, 100, -1, Integer.MIN_VALUE, Integer.MAX_VALUE}) {
            DUE.refused("weight " + weight, Due.NO_ARGUMENT, Scenes::busy, line -> line.addGarment(3, weight, 9, 9));
        }
    }

    /** "capacity: 1 to 999" */
    static void p51CapacityFrom1To999() {
        DUE.is("1", Scenes.busy().addGarment(3, 9, 1, 0), 4);
        DUE.is("999", Scenes.busy().addGarment(3, 9, 999, 0), 4);
        for (int capacity : new int[] {0, 1000, -1, Integer.MIN_VALUE, Integer.MAX_VALUE}) {
            DUE.refused("capacity " + capacity, Due.NO_ARGUMENT, Scenes::busy, line -> line.addGarment(3, 9, capacity, 0));
        }
        DUE.refused("capacity and water -1", Due.NO_ARGUMENT, Scenes::busy, line -> line.addGarment(3, 9, -1, -1));
        DUE.refused("capacity and water 1000", Due.NO_ARGUMENT, Scenes::busy, line -> line.addGarment(3, 9, 1000, 1000));
    }

    /** "water: 0 to the capacity" */
    static void p51WaterFrom0ToTheCapacity() {
        DUE.is("0", Scenes.busy().addGarment(3, 9, 17, 0), 4);
        DUE.is("the capacity", Scenes.busy().addGarment(3, 9, 17, 17), 4);
        DUE.is("the largest capacity", Scenes.busy().addGarment(3, 9, 999, 999), 4);
        DUE.is("the smallest capacity", Scenes.busy().addGarment(3, 9, 1, 1), 4);
        for (int water : new int[] {-1, 18, 999, Integer.MIN_VALUE, Integer.MAX_VALUE}) {
            DUE.refused("water " + water, Due.NO_ARGUMENT, Scenes::busy, line -> line.addGarment(3, 9, 17, water));
        }
        DUE.refused("water 1000", Due.NO_ARGUMENT, Scenes::busy, line -> line.addGarment(3, 9, 999, 1000));
    }

    /** "Throws IllegalStateException if there are 10 garments" */
    static void p51NoMoreThan10() {
        Supplier<ClothesLine> nine = () -> Due.lineOf("line 0 0 0;wind 0;" + "garment 1 1 1 1;".repeat(9));
        DUE.is("the tenth", nine.get().addGarment(1, 1, 1, 0), 9);
        DUE.refused("the 11th", Due.NO_STATE, Scenes::full, line -> line.addGarment(1, 1, 1, 0));
        ClothesLine line = Scenes.full();
        DUE.throwsIt("the 11th", Due.NO_STATE, () -> line.addGarment(1, 1, 1, 0));
        DUE.is("garments", line.garmentCount(), 10);
    }

    /** "If several exceptions apply to a call, the one that is listed first is thrown." */
    static void p51OutOfRangeBeforeTooMany() {
        int[][] wrong = {{0, 1, 1, 1}, {7, 1, 1, 1}, {1, 0, 1, 1}, {1, 100, 1, 1}, {1, 1, 0, 0}, {1, 1, 1000, 1},
            {1, 1, 5, -1}, {1, 1, 5, 6}};
        for (int[] w : wrong) {
            DUE.refused("the 11th", Due.NO_ARGUMENT, Scenes::full, line -> line.addGarment(w[0], w[1], w[2], w[3]));
        }
    }

    static void p51IsAChange() {
        ClothesLine line = new ClothesLine();
        line.addGarment(1, 1, 1, 1);
        DUE.is("undoCount", line.undoCount(), 1);
    }

    /** A garment that was undone leaves its index, and nothing of itself. */
    static void p51NothingOfAGarmentThatWasUndone() {
        Supplier<ClothesLine> scene = () -> Due.lineOf("line 9 9 0;wind 3;shower 5 4 20;smoke 0 99;");
        DUE.same("added again", Whole.of(scene, line -> {
            Due.run(line, "garment 2 9 900 80;hang 0 0 1 0;minutes 20;");
            line.undo();
            line.addGarment(2, 9, 900, 80);
        }), Whole.of(scene, line -> {
            line.runScript();
            line.undo();
            line.addGarment(2, 9, 900, 80);
        }));
    }

    // ---- hang

    /** "Returns its hold." */
    static void p52AnswersItsHold() {
        DUE.is("one wooden peg", new ClothesLine().hang(3, 22, 1, 0), 20);
        DUE.is("one steel peg", new ClothesLine().hang(3, 22, 0, 1), 45);
        DUE.is("three and one", new ClothesLine().hang(3, 22, 3, 1), 105);
        DUE.is("four steel pegs", Scenes.fallen().hang(3, 22, 0, 4), 180);
    }

    static void p52ItHangsThereWithThesePegs() {
        ClothesLine line = new ClothesLine();
        line.hang(3, 22, 3, 1);
        DUE.is("state", line.stateOf(3), ClothesLine.LINE);
        DUE.is("spot", line.spotOf(3), 22);
        DUE.is("wooden", line.woodenOf(3), 3);
        DUE.is("steel", line.steelOf(3), 1);
        DUE.is("bag", line.woodenLeft() * 10 + line.steelLeft(), 10);
        DUE.is("spots", line.garmentAt(22) * 10 + line.garmentAt(23), 33);
        DUE.is("water", line.waterOf(3), 0);
    }

    /** Wet, with a smell, fallen and picked up, so that it is dirty. */
    private static ClothesLine wetSmellyAndDirty() {
        return Due.lineOf("line 9 9 24;wind 1;garment 1 20 99 9;shower 0 3 2;smoke 0 9;hang 0 0 1 0;minutes 1;pick 0;"
                + "hang 0 0 0 1;minutes 2;take 0;");
    }

    private static void wetSmellyAndDirtyStill(String when, ClothesLine line) {
        DUE.is(when + ": water", line.waterOf(0), 15);
        DUE.is(when + ": smell", line.smellOf(0), 3);
        DUE.is(when + ": dirty", line.isDirty(0), true);
        DUE.is(when + ": falls", line.fallsOf(0), 1);
        DUE.is(when + ": came", line.waterCame(), 15);
    }

    static void p52WaterSmellAndDirtStay() {
        ClothesLine line = wetSmellyAndDirty();
        wetSmellyAndDirtyStill("before", line);
        line.hang(0, 9, 2, 0);
        wetSmellyAndDirtyStill("hung", line);
    }

    /** "3 a spot that it needs is occupied": each spot beside, on and behind another garment */
    static void p52EachSpotBesideAnother() {
        for (int width = 1; width <= 6; width++) {
            for (int spot = 0; spot + width <= 24; spot++) {
                ClothesLine line = Due.lineOf("line 9 9 0;wind 0;garment 4 1 9 0;garment " + width + " 1 9 0;hang 0 10 1 0;");
                int asked = spot;
                if (spot + width <= 10 || spot >= 14) {
                    DUE.is("width " + width + " at " + spot, line.hang(1, spot, 1, 0), 20);
                } else {
                    DUE.throwsIt("width " + width + " at " + spot, Due.NO_STATE, () -> line.hang(1, asked, 1, 0));
                }
            }
        }
    }

    static void p52NoSuchGarment() {
        DUE.is("the tenth", Scenes.full().hang(9, 23, 1, 0), 20);
        DUE.refusesOtherGarments("hang", (line, garment) -> line.hang(garment, 9, 1, 0));
    }

    /** "spot: 0 to 23" */
    static void p52SpotFrom0To23() {
        DUE.is("0", Scenes.fallen().hang(3, 0, 1, 0), 20);
        DUE.is("23", Scenes.fallen().hang(3, 23, 1, 0), 20);
        for (int spot : new int[] {-1, 24, Integer.MIN_VALUE, Integer.MAX_VALUE}) {
            DUE.refused("spot " + spot, Due.NO_ARGUMENT, Scenes::busy, line -> line.hang(2, spot, 1, 0));
        }
    }

    /** "wooden: 0 to 4" */
    static void p52WoodenFrom0To4() {
        DUE.is("0", Scenes.fallen().hang(3, 9, 0, 1), 45);
        DUE.is("4", Scenes.fallen().hang(3, 9, 4, 0), 80);
        for (int wooden : new int[] {-1, 5, Integer.MIN_VALUE, Integer.MAX_VALUE}) {
            DUE.refused("wooden " + wooden, Due.NO_ARGUMENT, Scenes::busy, line -> line.hang(2, 9, wooden, 1));
        }
    }

    /** "steel: 0 to 4" */
    static void p52SteelFrom0To4() {
        DUE.is("0", Scenes.fallen().hang(3, 9, 1, 0), 20);
        DUE.is("4", Scenes.fallen().hang(3, 9, 0, 4), 180);
        for (int steel : new int[] {-1, 5, Integer.MIN_VALUE, Integer.MAX_VALUE}) {
            DUE.refused("steel " + steel, Due.NO_ARGUMENT, Scenes::busy, line -> line.hang(2, 9, 1, steel));
        }
    }

    /** "Throws IllegalStateException if hangObstacle() is not 0": each of the six */
    static void p52AnObstacle() {
        DUE.refused("1: on the line", Due.NO_STATE, Scenes::busy, line -> line.hang(1, 9, 1, 0));
        DUE.refused("1: on the ground", Due.NO_STATE, Scenes::busy, line -> line.hang(0, 9, 2, 2));
        DUE.refused("2: beyond spot 23", Due.NO_STATE, Scenes::busy, line -> line.hang(3, 22, 1, 0));
        DUE.refused("3: on another", Due.NO_STATE, Scenes::busy, line -> line.hang(3, 2, 1, 0));
        DUE.refused("4: without pegs", Due.NO_STATE, Scenes::busy, line -> line.hang(3, 9, 0, 0));
        DUE.refused("4: with five", Due.NO_STATE, Scenes::busy, line -> line.hang(3, 9, 4, 1));
        DUE.refused("5: too few pegs", Due.NO_STATE, ClothesLine::new, line -> line.hang(3, 5, 0, 2));
        Supplier<ClothesLine> heavy = () -> Due.lineOf("line 9 9 0;wind 0;garment 1 20 99 10;");
        DUE.refused("6: too heavy", Due.NO_STATE, heavy, line -> line.hang(0, 9, 1, 0));
        DUE.is("just not beyond", Scenes.busy().hang(3, 21, 1, 0), 20);
        DUE.is("just beside", Scenes.busy().hang(3, 1, 1, 0), 20);
        DUE.is("just behind", Scenes.busy().hang(3, 6, 1, 0), 20);
        DUE.is("four", Scenes.busy().hang(3, 9, 3, 1), 105);
        DUE.is("the last steel peg", new ClothesLine().hang(3, 5, 0, 1), 45);
        DUE.is("held", heavy.get().hang(0, 9, 2, 0), 40);
    }

    /** "If several exceptions apply to a call, the one that is listed first is thrown." */
    static void p52TheFirstException() {
        DUE.refused("no garment, spot", Due.NO_INDEX, Scenes::busy, line -> line.hang(4, 24, 1, 0));
        DUE.refused("no garment, pegs", Due.NO_INDEX, Scenes::busy, line -> line.hang(-1, 0, 5, -1));
        DUE.refused("on the line, spot", Due.NO_ARGUMENT, Scenes::busy, line -> line.hang(1, 24, 1, 0));
        DUE.refused("on the ground, wooden", Due.NO_ARGUMENT, Scenes::busy, line -> line.hang(0, 9, 5, 0));
        DUE.refused("beyond, steel", Due.NO_ARGUMENT, Scenes::busy, line -> line.hang(3, 23, 0, 5));
    }

    // ---- takeDown

    /** "Returns its water."; "into the basket" */
    static void p53IntoTheBasketWithItsWater() {
        ClothesLine line = new ClothesLine();
        DUE.is("water", line.takeDown(2), 350);
        DUE.is("state", line.stateOf(2), ClothesLine.BASKET);
        DUE.is("bag", line.woodenLeft() * 10 + line.steelLeft(), 53);
        DUE.is("free", line.freeSpots(), 0xFFFFFF & ~0x11C);
        DUE.is("water stays", line.waterOf(2), 350);
        DUE.is("undoCount", line.undoCount(), 1);
        ClothesLine dry = new ClothesLine();
        dry.passMinutes(5);
        DUE.is("without water", dry.takeDown(1), 0);
    }

    static void p53WaterSmellAndDirtStay() {
        ClothesLine line = wetSmellyAndDirty();
        line.hang(0, 9, 2, 0);
        DUE.is("its water", line.takeDown(0), 15);
        wetSmellyAndDirtyStill("taken down", line);
    }

    /** "Throws IllegalStateException if it is not on the line" */
    static void p53NotOnTheLine() {
        DUE.refused("on the ground", Due.NO_STATE, Scenes::busy, line -> line.takeDown(0));
        DUE.refused("in the basket", Due.NO_STATE, Scenes::busy, line -> line.takeDown(2));
        ClothesLine line = Scenes.busy();
        line.takeDown(1);
        DUE.throwsIt("taken down", Due.NO_STATE, () -> line.takeDown(1));
    }

    static void p53NoSuchGarment() {
        DUE.is("the tenth", Scenes.hung(2).takeDown(9), 0);
        DUE.refusesOtherGarments("takeDown", ClothesLine::takeDown);
    }

    // ---- pickUp

    /** "Returns the number of garments that are still on the ground." */
    static void p54AnswersHowManyAreStillOnTheGround() {
        ClothesLine line = Scenes.fallen();
        DUE.is("one is left", line.pickUp(1), 1);
        DUE.is("none is left", line.pickUp(0), 0);
    }

    /** "it is in the basket then, and still dirty" */
    static void p54InTheBasketAndStillDirty() {
        ClothesLine line = Scenes.fallen();
        line.pickUp(1);
        DUE.is("state", line.stateOf(1), ClothesLine.BASKET);
        DUE.is("dirty", line.isDirty(1), true);
        DUE.is("water", line.waterOf(1), 120);
        DUE.is("the other", line.stateOf(0), ClothesLine.GROUND);
        DUE.is("undoCount", line.undoCount(), 1);
    }

    static void p54WaterAndSmellStay() {
        ClothesLine line = Due.lineOf("line 9 9 24;wind 1;garment 1 20 99 5;shower 3 1 9;smoke 0 9;hang 0 0 1 0;minutes 4;");
        DUE.is("fallen", line.stateOf(0) * 1000 + line.waterOf(0) * 10 + line.smellOf(0), 2114);
        line.pickUp(0);
        DUE.is("picked up", line.waterOf(0) * 10 + line.smellOf(0), 114);
        DUE.is("falls", line.fallsOf(0), 1);
    }

    static void p54TenOnTheGround() {
        ClothesLine line = Due.lineOf("line 30 0 0;wind 0;" + "garment 1 20 99 9;".repeat(10));
        Due.run(line, "hang 0 0 1 0;hang 1 1 1 0;hang 2 2 1 0;hang 3 3 1 0;hang 4 4 1 0;hang 5 5 1 0;hang 6 6 1 0;"
                + "hang 7 7 1 0;hang 8 8 1 0;hang 9 9 1 0;shower 0 1 1;");
        DUE.is("ten fall", line.passMinutes(1), 10);
        for (int left = 9; left >= 0; left--) {
            DUE.is("pick up", line.pickUp(left), left);
        }
    }

    /** "Throws IllegalStateException if it is not on the ground" */
    static void p54NotOnTheGround() {
        DUE.refused("on the line", Due.NO_STATE, Scenes::busy, line -> line.pickUp(1));
        DUE.refused("in the basket", Due.NO_STATE, Scenes::busy, line -> line.pickUp(2));
        ClothesLine line = Scenes.busy();
        line.pickUp(0);
        DUE.throwsIt("picked up", Due.NO_STATE, () -> line.pickUp(0));
    }

    static void p54NoSuchGarment() {
        DUE.is("the first", Scenes.full().pickUp(0), 0);
        DUE.refusesOtherGarments("pickUp", ClothesLine::pickUp);
    }

    // ---- wash

    /** "its water becomes its capacity, its smell 0, and it is clean" */
    static void p55WetAndCleanWithoutSmell() {
        ClothesLine line = Due.lineOf("line 9 9 0;wind 1;garment 1 20 40 9;hang 0 0 1 0;shower 0 1 1;minutes 1;pick 0;"
                + "hang 0 0 0 1;smoke 0 9;minutes 5;take 0;");
        DUE.is("before", line.smellOf(0) * 100 + line.waterOf(0), 500);
        line.wash(0);
        DUE.is("water", line.waterOf(0), 40);
        DUE.is("smell", line.smellOf(0), 0);
        DUE.is("dirty", line.isDirty(0), false);
        DUE.is("state", line.stateOf(0), ClothesLine.BASKET);
    }

    /** "Returns the water that was added." */
    static void p55AnswersTheWaterThatWasAdded() {
        ClothesLine line = Due.lineOf("line 0 0 0;wind 0;garment 1 1 999 0;garment 1 1 9 8;garment 1 1 9 9;");
        DUE.is("all of it", line.wash(0), 999);
        DUE.is("one", line.wash(1), 1);
        DUE.is("nothing", line.wash(2), 0);
        DUE.is("nothing, washed again", line.wash(0), 0);
        DUE.is("undoCount, even if it alters nothing", line.undoCount(), 4);
    }

    /** "Throws IllegalStateException if it is not in the basket" */
    static void p55NotInTheBasket() {
        DUE.refused("on the ground", Due.NO_STATE, Scenes::busy, line -> line.wash(0));
        DUE.refused("on the line", Due.NO_STATE, Scenes::busy, line -> line.wash(1));
    }

    static void p55NoSuchGarment() {
        DUE.is("the tenth", Scenes.full().wash(9), 90);
        DUE.refusesOtherGarments("wash", ClothesLine::wash);
    }

    // ---- shift

    /** "Returns the previous spot."; "with the same pegs" */
    static void p56AnswersThePreviousSpot() {
        ClothesLine line = new ClothesLine();
        DUE.is("to 18", line.shift(0, 18), 2);
        DUE.is("spot", line.spotOf(0), 18);
        DUE.is("pegs", line.woodenOf(0) * 10 + line.steelOf(0), 20);
        DUE.is("to 0", line.shift(0, 0), 18);
        DUE.is("from 0", line.shift(0, 5), 0);
        DUE.is("undoCount", line.undoCount(), 3);
    }

    /** "The spots that it occupies now count as free." */
    static void p56ItsOwnSpotsCountAsFree() {
        ClothesLine line = new ClothesLine();
        DUE.is("one to the right", line.shift(0, 3), 2);
        DUE.is("two to the left", line.shift(0, 1), 3);
        DUE.is("to where it is", line.shift(0, 1), 1);
        DUE.is("undoCount, even if it alters nothing", line.undoCount(), 3);
    }

    /** "spot: 0 to 23" */
    static void p56SpotFrom0To23() {
        ClothesLine line = Due.lineOf("line 9 9 0;wind 0;garment 1 1 1 0;hang 0 5 1 0;");
        DUE.is("23", line.shift(0, 23), 5);
        DUE.is("0", line.shift(0, 0), 23);
        for (int spot : new int[] {-1, 24, Integer.MIN_VALUE, Integer.MAX_VALUE}) {
            DUE.refused("spot " + spot, Due.NO_ARGUMENT, Scenes::busy, one -> one.shift(1, spot));
        }
    }

    /** "if it is not on the line" */
    static void p56NotOnTheLine() {
        DUE.refused("on the ground", Due.NO_STATE, Scenes::busy, line -> line.shift(0, 9));
        DUE.refused("in the basket", Due.NO_STATE, Scenes::busy, line -> line.shift(2, 9));
    }

    /** "if it would go beyond spot 23" */
    static void p56BeyondSpot23() {
        DUE.is("just not beyond", Scenes.busy().shift(1, 22), 4);
        DUE.refused("beyond", Due.NO_STATE, Scenes::busy, line -> line.shift(1, 23));
        for (int width = 2; width <= 6; width++) {
            String setup = "line 9 9 0;wind 0;garment " + width + " 1 1 0;hang 0 0 1 0;";
            int last = 24 - width;
            DUE.is("width " + width, Due.lineOf(setup).shift(0, last), 0);
            DUE.refused("width " + width + ", beyond", Due.NO_STATE, () -> Due.lineOf(setup), line -> line.shift(0, last + 1));
        }
    }

    /** "if another garment occupies a spot that it needs" */
    static void p56AnotherGarmentOccupiesASpot() {
        DUE.is("just before", new ClothesLine().shift(0, 9), 2);
        DUE.is("just behind", new ClothesLine().shift(0, 17), 2);
        DUE.is("between two", new ClothesLine().shift(0, 5), 2);
        DUE.refused("on its first spot", Due.NO_STATE, ClothesLine::new, line -> line.shift(0, 10));
        DUE.refused("on its last spot", Due.NO_STATE, ClothesLine::new, line -> line.shift(0, 16));
        DUE.refused("around it", Due.NO_STATE, ClothesLine::new, line -> line.shift(0, 7));
        DUE.refused("within it", Due.NO_STATE, ClothesLine::new, line -> line.shift(1, 14));
    }

    static void p56EachSpotBesideAnother() {
        for (int width = 1; width <= 6; width++) {
            for (int spot = 0; spot + width <= 24; spot++) {
                ClothesLine line = Due.lineOf("line 9 9 0;wind 0;garment 4 1 9 0;garment " + width + " 1 9 0;hang 1 0 1 0;"
                        + "hang 0 10 1 0;");
                int asked = spot;
                if (spot + width <= 10 || spot >= 14) {
                    DUE.is("width " + width + " to " + spot, line.shift(1, spot), 0);
                } else {
                    DUE.throwsIt("width " + width + " to " + spot, Due.NO_STATE, () -> line.shift(1, asked));
                }
            }
        }
    }

    static void p56WaterSmellAndDirtStay() {
        ClothesLine line = wetSmellyAndDirty();
        line.hang(0, 9, 2, 0);
        line.shift(0, 10);
        wetSmellyAndDirtyStill("shifted", line);
    }

    static void p56NoSuchGarment() {
        DUE.is("the tenth", Scenes.hung(2).shift(9, 22), 18);
        DUE.refusesOtherGarments("shift", (line, garment) -> line.shift(garment, 9));
    }

    /** "If several exceptions apply to a call, the one that is listed first is thrown." */
    static void p56TheFirstException() {
        DUE.refused("no garment, spot", Due.NO_INDEX, Scenes::busy, line -> line.shift(4, 24));
        DUE.refused("no garment, spot -1", Due.NO_INDEX, Scenes::busy, line -> line.shift(-1, -1));
        DUE.refused("in the basket, spot", Due.NO_ARGUMENT, Scenes::busy, line -> line.shift(2, 24));
        DUE.refused("on the ground, spot", Due.NO_ARGUMENT, Scenes::busy, line -> line.shift(0, -1));
    }

    // ---- addShower

    /** "Returns the number of showers." */
    static void p57AnswersTheNumberOfShowers() {
        ClothesLine line = Scenes.empty();
        for (int showers = 1; showers <= 4; showers++) {
            DUE.is("addShower", line.addShower(5, 1, 2), showers);
            DUE.is("rain", line.rainIn(5), 2 * showers);
        }
        DUE.is("undoCount", line.undoCount(), 4);
    }

    /** "start: 0 to 9999" */
    static void p57StartFrom0To9999() {
        ClothesLine line = Scenes.empty();
        line.addShower(0, 1, 3);
        line.addShower(9999, 1, 4);
        DUE.is("rain", line.rainIn(0) * 100 + line.rainIn(1) * 10 + line.rainIn(9999), 304);
        for (int start : new int[] {-1, 10000, Integer.MIN_VALUE, Integer.MAX_VALUE}) {
            DUE.refused("start " + start, Due.NO_ARGUMENT, Scenes::busy, one -> one.addShower(start, 1, 1));
        }
    }

    /** "length: 1 to 200" */
    static void p57LengthFrom1To200() {
        ClothesLine line = Scenes.empty();
        line.addShower(10, 1, 3);
        line.addShower(100, 200, 4);
        DUE.is("1", line.rainIn(10) * 10 + line.rainIn(11), 30);
        DUE.is("200", line.rainIn(299) * 10 + line.rainIn(300), 40);
        for (int length : new int[] {0, 201, -1, Integer.MIN_VALUE, Integer.MAX_VALUE}) {
            DUE.refused("length " + length, Due.NO_ARGUMENT, Scenes::busy, one -> one.addShower(1, length, 1));
        }
    }

    /** "strength: 1 to 20" */
    static void p57StrengthFrom1To20() {
        ClothesLine line = Scenes.empty();
        line.addShower(10, 1, 1);
        line.addShower(11, 1, 20);
        DUE.is("rain", line.rainIn(10) * 100 + line.rainIn(11), 120);
        for (int strength : new int[] {0, 21, -1, Integer.MIN_VALUE, Integer.MAX_VALUE}) {
            DUE.refused("strength " + strength, Due.NO_ARGUMENT, Scenes::busy, one -> one.addShower(1, 1, strength));
        }
    }

    /** "Throws IllegalStateException if there are 4 showers" */
    static void p57NoMoreThan4() {
        DUE.refused("the 5th", Due.NO_STATE, Scenes::full, line -> line.addShower(1, 1, 1));
        ClothesLine line = Due.lineOf("line 0 0 0;wind 0;shower 1 1 1;shower 1 1 1;shower 1 1 1;");
        DUE.is("the 4th", line.addShower(1, 1, 1), 4);
        line.undo();
        DUE.is("the 4th again", line.addShower(1, 1, 5), 4);
        line.passMinutes(9);
        DUE.throwsIt("showers that are over count", Due.NO_STATE, () -> line.addShower(99, 1, 1));
        DUE.is("rain", line.rainIn(1), 8);
    }

    /** "If several exceptions apply to a call, the one that is listed first is thrown." */
    static void p57OutOfRangeBeforeTooMany() {
        DUE.refused("start", Due.NO_ARGUMENT, Scenes::full, line -> line.addShower(10000, 1, 1));
        DUE.refused("length", Due.NO_ARGUMENT, Scenes::full, line -> line.addShower(1, 201, 1));
        DUE.refused("strength", Due.NO_ARGUMENT, Scenes::full, line -> line.addShower(1, 1, 0));
    }

    // ---- addSmoke

    /** "Returns the number of smoke times." */
    static void p58AnswersTheNumberOfSmokeTimes() {
        ClothesLine line = Due.lineOf("line 0 0 0;wind 1;");
        for (int smokes = 1; smokes <= 4; smokes++) {
            DUE.is("addSmoke", line.addSmoke(10 * smokes, 10 * smokes), smokes);
            DUE.is("smoke", line.smokySpots(10 * smokes), 15);
        }
        DUE.is("undoCount", line.undoCount(), 4);
    }

    /** "first: 0 to 9999" */
    static void p58FirstFrom0To9999() {
        ClothesLine line = Due.lineOf("line 0 0 0;wind 1;");
        line.addSmoke(0, 0);
        line.addSmoke(9999, 9999);
        DUE.is("smoke", line.smokySpots(0) * 100 + line.smokySpots(1) + line.smokySpots(9999), 1515);
        for (int first : new int[] {-1, 10000, Integer.MIN_VALUE, Integer.MAX_VALUE}) {
            DUE.refused("first " + first, Due.NO_ARGUMENT, Scenes::busy, one -> one.addSmoke(first, 9999));
        }
        DUE.refused("first and last 10000", Due.NO_ARGUMENT, Scenes::busy, one -> one.addSmoke(10000, 10000));
        DUE.refused("first and last -1", Due.NO_ARGUMENT, Scenes::busy, one -> one.addSmoke(-1, -1));
    }

    /** "last: first to 9999" */
    static void p58LastFromFirstTo9999() {
        ClothesLine line = Due.lineOf("line 0 0 0;wind 1;");
        DUE.is("first", line.addSmoke(5, 5), 1);
        DUE.is("9999", line.addSmoke(5, 9999), 2);
        DUE.is("smoke", line.smokySpots(4) * 100 + line.smokySpots(9999), 15);
        for (int last : new int[] {4, 0, -1, 10000, Integer.MIN_VALUE, Integer.MAX_VALUE}) {
            DUE.refused("last " + last, Due.NO_ARGUMENT, Scenes::busy, one -> one.addSmoke(5, last));
        }
    }

    /** "Throws IllegalStateException if there are 4 smoke times" */
    static void p58NoMoreThan4() {
        DUE.refused("the 5th", Due.NO_STATE, Scenes::full, line -> line.addSmoke(1, 1));
        ClothesLine line = Due.lineOf("line 0 0 0;wind 1;smoke 1 1;smoke 1 1;smoke 1 1;");
        DUE.is("the 4th", line.addSmoke(5, 5), 4);
        line.undo();
        DUE.is("the 4th again", line.addSmoke(6, 6), 4);
        DUE.is("smoke", line.smokySpots(5) * 100 + line.smokySpots(6), 15);
        line.passMinutes(9);
        DUE.throwsIt("smoke times that are over count", Due.NO_STATE, () -> line.addSmoke(99, 99));
    }

    /** "If several exceptions apply to a call, the one that is listed first is thrown." */
    static void p58OutOfRangeBeforeTooMany() {
        DUE.refused("first", Due.NO_ARGUMENT, Scenes::full, line -> line.addSmoke(-1, 1));
        DUE.refused("last", Due.NO_ARGUMENT, Scenes::full, line -> line.addSmoke(1, 10000));
        DUE.refused("last before first", Due.NO_ARGUMENT, Scenes::full, line -> line.addSmoke(2, 1));
    }

    // ---- setWind

    /** "Returns the previous wind." */
    static void p59AnswersThePreviousWind() {
        ClothesLine line = new ClothesLine();
        DUE.is("3", line.setWind(2, 5), 3);
        DUE.is("5", line.setWind(2, 0), 5);
        DUE.is("0, and nothing is altered", line.setWind(2, 0), 0);
        DUE.is("undoCount, even if it alters nothing", line.undoCount(), 3);
    }

    static void p59OnlyThisWindIsSet() {
        ClothesLine line = new ClothesLine();
        line.setWind(1, 4);
        DUE.is("winds", line.windIn(0) * 1000 + line.windIn(60) * 100 + line.windIn(120) * 10 + line.windIn(180), 1431);
    }

    /** "index: 0 to the length of the pattern less 1" */
    static void p59IndexFrom0ToTheLengthLess1() {
        DUE.is("0 of 3", new ClothesLine().setWind(0, 2), 1);
        DUE.is("2 of 3", new ClothesLine().setWind(2, 2), 3);
        DUE.is("0 of 1", Scenes.empty().setWind(0, 2), 0);
        ClothesLine line = Scenes.full();
        DUE.is("7 of 8", line.setWind(7, 4), 1);
        DUE.is("the eighth", line.windIn(420), 4);
        for (int index : new int[] {-1, 3, 8, Integer.MIN_VALUE, Integer.MAX_VALUE}) {
            DUE.refused("of 3: " + index, Due.NO_INDEX, ClothesLine::new, one -> one.setWind(index, 1));
        }
        DUE.refused("of 1: 1", Due.NO_INDEX, Scenes::empty, one -> one.setWind(1, 1));
        DUE.refused("of 2: 2", Due.NO_INDEX, Scenes::busy, one -> one.setWind(2, 1));
        DUE.refused("of 8: 8", Due.NO_INDEX, Scenes::full, one -> one.setWind(8, 1));
        DUE.refused("of 8: -1", Due.NO_INDEX, Scenes::full, one -> one.setWind(-1, 1));
    }

    /** "wind: 0 to 5" */
    static void p59WindFrom0To5() {
        ClothesLine line = new ClothesLine();
        line.setWind(0, 0);
        line.setWind(1, 5);
        DUE.is("winds", line.windIn(0) * 10 + line.windIn(60), 5);
        for (int wind : new int[] {-1, 6, Integer.MIN_VALUE, Integer.MAX_VALUE}) {
            DUE.refused("wind " + wind, Due.NO_ARGUMENT, Scenes::busy, one -> one.setWind(0, wind));
        }
    }

    /** "If several exceptions apply to a call, the one that is listed first is thrown." */
    static void p59NoSuchIndexBeforeOutOfRange() {
        DUE.refused("3, 6", Due.NO_INDEX, ClothesLine::new, line -> line.setWind(3, 6));
        DUE.refused("-1, -1", Due.NO_INDEX, Scenes::busy, line -> line.setWind(-1, -1));
    }
}
