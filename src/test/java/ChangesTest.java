/** Promises 51 to 60: changes. */
public final class ChangesTest {
    private static final Class<IndexOutOfBoundsException> NO_INDEX = IndexOutOfBoundsException.class;
    private static final Class<IllegalArgumentException> NO_ARGUMENT = IllegalArgumentException.class;
    private static final Class<IllegalStateException> NO_STATE = IllegalStateException.class;
    private static final Due DUE = new Due("ChangesTest");

    public static void main(String[] args) {
        promise51AddGarment();
        promise52Hang();
        promise53TakeDown();
        promise54PickUp();
        promise55Wash();
        promise56Shift();
        promise57AddShower();
        promise58AddSmoke();
        promise59SetWind();
        promise60PassMinutes();
        DUE.end();
    }

    /** The call throws, and changes nothing. */
    private static void refused(ClothesLine line, String call, Class<? extends RuntimeException> want, Runnable made) {
        String before = Due.seen(line);
        DUE.throwsIt(call, want, made);
        DUE.same(call + " changes nothing", Due.seen(line), before);
    }

    private static void promise51AddGarment() {
        ClothesLine line = new ClothesLine();
        DUE.is("added", line.addGarment(6, 99, 999, 999), 4);
        DUE.is("state", line.stateOf(4), ClothesLine.BASKET);
        DUE.is("width", line.widthOf(4), 6);
        DUE.is("weight", line.dryWeight(4), 99);
        DUE.is("capacity", line.capacityOf(4), 999);
        DUE.is("water", line.waterOf(4), 999);
        DUE.is("smell", line.smellOf(4), 0);
        DUE.is("dirty", line.isDirty(4), false);
        DUE.is("came", line.waterCame(), 1739);
        DUE.is("change", line.undoCount(), 1);
        int[][] wrong = {{0, 1, 1, 1}, {7, 1, 1, 1}, {1, 0, 1, 1}, {1, 100, 1, 1}, {1, 1, 0, 0}, {1, 1, 1000, 1},
            {1, 1, 5, -1}, {1, 1, 5, 6}, {Integer.MIN_VALUE, 1, 1, 1}, {1, 1, 1, Integer.MAX_VALUE}, {1, 1, -1, -1}};
        for (int[] w : wrong) {
            refused(line, "addGarment", NO_ARGUMENT, () -> line.addGarment(w[0], w[1], w[2], w[3]));
        }
        for (int index = 5; index < 10; index++) {
            DUE.is("added " + index, line.addGarment(1, 1, 1, 0), index);
        }
        refused(line, "addGarment the 11th", NO_STATE, () -> line.addGarment(1, 1, 1, 0));
        for (int[] w : wrong) {
            refused(line, "addGarment the 11th, wrong", NO_ARGUMENT, () -> line.addGarment(w[0], w[1], w[2], w[3]));
        }
        nothingOfAnOldGarment();
        ClothesLine again = new ClothesLine();
        again.hang(3, 20, 1, 0);
        again.undo();
        Due.load(again, "line 9 9 0;wind 0;garment 1 1 1 1;garment 1 1 1 1;garment 1 1 1 1;");
        again.addGarment(2, 3, 4, 1);
        DUE.is("a new garment has nothing of an old one", again.spotOf(3) * 10 + again.freeSpots(), 0xFFFFFF - 10);
    }

    private static void nothingOfAnOldGarment() {
        ClothesLine line = Due.lineOf("line 9 9 0;wind 3;shower 5 4 20;smoke 0 99;");
        line.addGarment(2, 9, 900, 80);
        String first = Due.seen(line);
        line.hang(0, 0, 1, 0);
        line.passMinutes(20);
        DUE.is("the old one fell", line.fallsOf(0), 1);
        line.undo();
        line.undo();
        line.undo();
        line.addGarment(2, 9, 900, 80);
        DUE.same("a new one is as the old one was", Due.seen(line), first);
        line.undo();
        DUE.is("added and fallen in one change", Due.run(line, "garment 2 9 900 80;hang 0 0 1 0;minutes 20;"), 3);
        DUE.is("the old one fell again", line.fallsOf(0) * 100 + line.smellOf(0), 107);
        line.undo();
        line.addGarment(2, 9, 900, 80);
        DUE.same("a new one has nothing of it", Due.seen(line), first);
        line.hang(0, 0, 1, 0);
        line.passMinutes(20);
        Due.load(line, "line 9 9 0;wind 3;shower 5 4 20;smoke 0 99;garment 2 9 900 80;");
        line.passMinutes(1);
        line.undo();
        DUE.is("as it was, but for the undo", line.smellOf(0) + line.fallsOf(0) + line.driedBySun() + line.driedByWind(), 0);
        DUE.is("clean", line.isDirty(0), false);
    }

    private static void promise52Hang() {
        ClothesLine line = new ClothesLine();
        DUE.is("hang", line.hang(3, 22, 3, 1), 105);
        DUE.is("state", line.stateOf(3), ClothesLine.LINE);
        DUE.is("spot", line.spotOf(3), 22);
        DUE.is("pegs", line.woodenOf(3) * 10 + line.steelOf(3), 31);
        DUE.is("change", line.undoCount(), 1);
        refused(line, "hang twice", NO_STATE, () -> line.hang(3, 5, 1, 0));
        line.takeDown(3);
        for (int garment : Due.NO_GARMENTS) {
            refused(line, "hang " + garment, NO_INDEX, () -> line.hang(garment, 24, 5, 5));
        }
        int[][] wrong = {{-1, 1, 0}, {24, 1, 0}, {0, -1, 0}, {0, 5, 0}, {0, 1, -1}, {0, 1, 5}};
        for (int[] w : wrong) {
            refused(line, "hang at " + w[0] + " with " + w[1] + " and " + w[2], NO_ARGUMENT,
                    () -> line.hang(0, w[0], w[1], w[2]));
        }
        refused(line, "hang on the line", NO_STATE, () -> line.hang(0, 20, 1, 0));
        refused(line, "hang beyond", NO_STATE, () -> line.hang(3, 23, 1, 0));
        refused(line, "hang on another", NO_STATE, () -> line.hang(3, 11, 1, 0));
        refused(line, "hang without pegs", NO_STATE, () -> line.hang(3, 5, 0, 0));
        refused(line, "hang with five", NO_STATE, () -> line.hang(3, 5, 4, 1));
        refused(line, "hang with too few", NO_STATE, () -> line.hang(3, 5, 0, 2));
        line.addGarment(1, 41, 9, 0);
        refused(line, "hang too heavy", NO_STATE, () -> line.hang(4, 5, 2, 0));
        DUE.is("hang with one more", line.hang(4, 5, 3, 0), 60);
    }

    private static void promise53TakeDown() {
        ClothesLine line = new ClothesLine();
        DUE.is("take", line.takeDown(2), 350);
        DUE.is("state", line.stateOf(2), ClothesLine.BASKET);
        DUE.is("bag", line.woodenLeft() * 10 + line.steelLeft(), 53);
        DUE.is("change", line.undoCount(), 1);
        refused(line, "take twice", NO_STATE, () -> line.takeDown(2));
        for (int garment : Due.NO_GARMENTS) {
            refused(line, "take " + garment, NO_INDEX, () -> line.takeDown(garment));
        }
        ClothesLine fallen = twoFallen();
        refused(fallen, "take from the ground", NO_STATE, () -> fallen.takeDown(0));
    }

    private static ClothesLine twoFallen() {
        return Due.lineOf("line 9 9 0;wind 0;garment 1 9 990 0;garment 1 9 990 0;garment 1 1 990 0;garment 1 1 9 0;"
                + "hang 0 0 1 0;hang 1 1 1 0;hang 2 2 1 0;shower 0 6 20;minutes 6;");
    }

    private static void promise54PickUp() {
        ClothesLine line = twoFallen();
        DUE.is("two on the ground", line.garmentsIn(ClothesLine.GROUND), 3);
        DUE.is("pick", line.pickUp(1), 1);
        DUE.is("state", line.stateOf(1), ClothesLine.BASKET);
        DUE.is("dirty", line.isDirty(1), true);
        DUE.is("change", line.undoCount(), 1);
        refused(line, "pick twice", NO_STATE, () -> line.pickUp(1));
        refused(line, "pick from the line", NO_STATE, () -> line.pickUp(2));
        for (int garment : Due.NO_GARMENTS) {
            refused(line, "pick " + garment, NO_INDEX, () -> line.pickUp(garment));
        }
        DUE.is("pick the last", line.pickUp(0), 0);
    }

    private static void promise55Wash() {
        ClothesLine line = twoFallen();
        refused(line, "wash on the ground", NO_STATE, () -> line.wash(0));
        refused(line, "wash on the line", NO_STATE, () -> line.wash(2));
        line.pickUp(0);
        DUE.is("water", line.waterOf(0), 120);
        DUE.is("wash", line.wash(0), 870);
        DUE.is("water is the capacity", line.waterOf(0), 990);
        DUE.is("clean", line.isDirty(0), false);
        DUE.is("state", line.stateOf(0), ClothesLine.BASKET);
        DUE.is("wash again", line.wash(0), 0);
        DUE.is("changes", line.undoCount(), 3);
        for (int garment : Due.NO_GARMENTS) {
            refused(line, "wash " + garment, NO_INDEX, () -> line.wash(garment));
        }
    }

    private static void promise56Shift() {
        ClothesLine line = new ClothesLine();
        DUE.is("shift", line.shift(0, 5), 2);
        DUE.is("spot", line.spotOf(0), 5);
        DUE.is("pegs", line.woodenOf(0) * 10 + line.steelOf(0), 20);
        DUE.is("shift over its own spots", line.shift(0, 4), 5);
        DUE.is("shift to where it is", line.shift(0, 4), 4);
        DUE.is("changes", line.undoCount(), 3);
        DUE.is("shift to the end", line.shift(0, 21), 4);
        DUE.is("free", line.freeSpots(), 0x1FFFFF & ~0x1F100);
        refused(line, "shift beyond", NO_STATE, () -> line.shift(0, 22));
        refused(line, "shift on another's end", NO_STATE, () -> line.shift(0, 16));
        refused(line, "shift on another's begin", NO_STATE, () -> line.shift(0, 10));
        refused(line, "shift from the basket", NO_STATE, () -> line.shift(3, 0));
        refused(line, "shift in the basket to 24", NO_ARGUMENT, () -> line.shift(3, 24));
        refused(line, "shift to -1", NO_ARGUMENT, () -> line.shift(0, -1));
        refused(line, "shift to the largest", NO_ARGUMENT, () -> line.shift(0, Integer.MAX_VALUE));
        for (int garment : Due.NO_GARMENTS) {
            refused(line, "shift " + garment, NO_INDEX, () -> line.shift(garment, 24));
        }
        ClothesLine small = Due.lineOf("line 9 9 0;wind 0;garment 1 1 1 0;hang 0 5 1 0;");
        DUE.is("shift to 23", small.shift(0, 23), 5);
        DUE.is("shift to 0", small.shift(0, 0), 23);
        ClothesLine fallen = twoFallen();
        refused(fallen, "shift on the ground", NO_STATE, () -> fallen.shift(0, 9));
    }

    private static void promise57AddShower() {
        ClothesLine line = Due.lineOf("line 0 0 0;wind 0;");
        int[][] wrong = {{-1, 1, 1}, {10000, 1, 1}, {0, 0, 1}, {0, 201, 1}, {0, 1, 0}, {0, 1, 21},
            {Integer.MAX_VALUE, 1, 1}, {0, Integer.MIN_VALUE, 1}, {0, 1, Integer.MAX_VALUE}};
        for (int[] w : wrong) {
            refused(line, "addShower", NO_ARGUMENT, () -> line.addShower(w[0], w[1], w[2]));
        }
        DUE.is("shower 1", line.addShower(0, 1, 1), 1);
        DUE.is("shower 2", line.addShower(9999, 200, 20), 2);
        DUE.is("shower 3", line.addShower(0, 1, 1), 3);
        DUE.is("shower 4", line.addShower(5, 1, 1), 4);
        DUE.is("rain", line.rainIn(0) * 10000 + line.rainIn(5) * 100 + line.rainIn(10198), 20120);
        DUE.is("changes", line.undoCount(), 4);
        refused(line, "addShower the 5th", NO_STATE, () -> line.addShower(0, 1, 1));
        for (int[] w : wrong) {
            refused(line, "addShower the 5th, wrong", NO_ARGUMENT, () -> line.addShower(w[0], w[1], w[2]));
        }
        line.undo();
        DUE.is("shower 4 again", line.addShower(0, 1, 1), 4);
    }

    private static void promise58AddSmoke() {
        ClothesLine line = Due.lineOf("line 0 0 0;wind 1;");
        int[][] wrong = {{-1, 1}, {10000, 10000}, {5, 4}, {0, 10000}, {0, -1}, {Integer.MIN_VALUE, 0},
            {0, Integer.MAX_VALUE}, {Integer.MAX_VALUE, Integer.MAX_VALUE}};
        for (int[] w : wrong) {
            refused(line, "addSmoke", NO_ARGUMENT, () -> line.addSmoke(w[0], w[1]));
        }
        DUE.is("smoke 1", line.addSmoke(5, 5), 1);
        DUE.is("smoke 2", line.addSmoke(9999, 9999), 2);
        DUE.is("smoke 3", line.addSmoke(0, 0), 3);
        DUE.is("smoke 4", line.addSmoke(7, 8), 4);
        DUE.is("smoke", line.smokySpots(0) + line.smokySpots(5) + line.smokySpots(6) + line.smokySpots(8), 45);
        DUE.is("changes", line.undoCount(), 4);
        refused(line, "addSmoke the 5th", NO_STATE, () -> line.addSmoke(0, 0));
        for (int[] w : wrong) {
            refused(line, "addSmoke the 5th, wrong", NO_ARGUMENT, () -> line.addSmoke(w[0], w[1]));
        }
    }

    private static void promise59SetWind() {
        ClothesLine line = new ClothesLine();
        DUE.is("wind", line.setWind(2, 5), 3);
        DUE.is("wind is set", line.windIn(120), 5);
        DUE.is("the others are not", line.windIn(0) * 10 + line.windIn(60), 10);
        DUE.is("wind 0", line.setWind(2, 0), 5);
        DUE.is("the same wind", line.setWind(2, 0), 0);
        DUE.is("changes", line.undoCount(), 3);
        for (int index : new int[] {-1, 3, 8, Integer.MIN_VALUE, Integer.MAX_VALUE}) {
            refused(line, "setWind " + index, NO_INDEX, () -> line.setWind(index, 6));
        }
        for (int wind : new int[] {-1, 6, Integer.MIN_VALUE, Integer.MAX_VALUE}) {
            refused(line, "setWind to " + wind, NO_ARGUMENT, () -> line.setWind(0, wind));
        }
        ClothesLine eight = Due.lineOf("line 0 0 0;wind 1 1 1 1 1 1 1 1;");
        DUE.is("the eighth", eight.setWind(7, 4), 1);
        DUE.is("the eighth is set", eight.windIn(420), 4);
    }

    private static void promise60PassMinutes() {
        ClothesLine line = new ClothesLine();
        DUE.is("none falls", line.passMinutes(200), 0);
        DUE.is("minute", line.minute(), 225);
        DUE.is("change", line.undoCount(), 1);
        for (int minutes : new int[] {0, -1, 201, Integer.MIN_VALUE, Integer.MAX_VALUE}) {
            refused(line, "passMinutes " + minutes, NO_ARGUMENT, () -> line.passMinutes(minutes));
        }
        ClothesLine rain = Due.lineOf("line 9 9 0;wind 0;garment 1 9 990 0;garment 1 9 990 0;garment 1 19 990 0;"
                + "hang 0 0 1 0;hang 1 1 0 1;hang 2 2 1 0;shower 0 30 20;");
        DUE.is("one falls at once", rain.passMinutes(1), 1);
        DUE.is("two fall later", rain.passMinutes(30), 2);
        DUE.is("none is left", rain.passMinutes(30), 0);
    }
}
