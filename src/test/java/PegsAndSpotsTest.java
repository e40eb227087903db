/** Promises 15 to 20: pegs and spots. */
public final class PegsAndSpotsTest {
    private static final Due DUE = new Due("PegsAndSpotsTest");

    public static void main(String[] args) {
        promise15And16PegsLeft();
        promise17FreeSpots();
        promise18LongestGap();
        promise19GarmentAt();
        promise20GarmentByPlace();
        DUE.end();
    }

    private static void promise15And16PegsLeft() {
        ClothesLine line = Due.lineOf("line 5 4 0;wind 0;garment 1 9 990 0;garment 1 9 990 0;");
        DUE.is("wooden", line.woodenLeft(), 5);
        DUE.is("steel", line.steelLeft(), 4);
        line.hang(0, 0, 3, 1);
        DUE.is("wooden less 3", line.woodenLeft(), 2);
        DUE.is("steel less 1", line.steelLeft(), 3);
        line.hang(1, 1, 1, 0);
        line.shift(0, 9);
        DUE.is("wooden less 4", line.woodenLeft(), 1);
        line.addShower(0, 20, 20);
        DUE.is("one falls", line.passMinutes(6), 1);
        DUE.is("wooden back from the ground", line.woodenLeft(), 2);
        DUE.is("steel after the fall", line.steelLeft(), 3);
        line.pickUp(1);
        DUE.is("wooden after picking up", line.woodenLeft(), 2);
        line.takeDown(0);
        DUE.is("wooden all", line.woodenLeft(), 5);
        DUE.is("steel all", line.steelLeft(), 4);
        line.undo();
        DUE.is("wooden undone", line.woodenLeft(), 2);
        DUE.is("none", Due.lineOf("line 0 30 0;wind 0;").woodenLeft(), 0);
        DUE.is("thirty", Due.lineOf("line 0 30 0;wind 0;").steelLeft(), 30);
    }

    private static void promise17FreeSpots() {
        ClothesLine line = Due.lineOf("line 9 9 0;wind 0;garment 6 1 1 0;garment 1 1 1 0;");
        DUE.is("all free", line.freeSpots(), 0xFFFFFF);
        line.hang(0, 18, 1, 0);
        DUE.is("18 free", line.freeSpots(), 0x3FFFF);
        line.hang(1, 0, 1, 0);
        DUE.is("17 free", line.freeSpots(), 0x3FFFE);
        line.shift(0, 1);
        DUE.is("shifted", line.freeSpots(), 0xFFFF80);
        line.takeDown(0);
        DUE.is("taken", line.freeSpots(), 0xFFFFFE);
    }

    private static void promise18LongestGap() {
        ClothesLine line = Due.lineOf("line 9 9 0;wind 0;garment 6 1 1 0;garment 6 1 1 0;garment 6 1 1 0;garment 6 1 1 0;");
        DUE.is("gap of all", line.longestGap(), 24);
        line.hang(0, 18, 1, 0);
        DUE.is("gap at the begin", line.longestGap(), 18);
        line.hang(1, 1, 1, 0);
        DUE.is("gap between", line.longestGap(), 11);
        line.shift(1, 0);
        line.hang(2, 6, 1, 0);
        DUE.is("gap of six", line.longestGap(), 6);
        line.shift(0, 13);
        DUE.is("gap at the end", line.longestGap(), 5);
        line.shift(0, 12);
        line.hang(3, 18, 1, 0);
        DUE.is("no gap", line.longestGap(), 0);
    }

    private static void promise19GarmentAt() {
        ClothesLine line = new ClothesLine();
        int[] due = {-1, -1, 0, 0, 0, -1, -1, -1, 1, -1, -1, -1, 2, 2, 2, 2, 2, -1, -1, -1, -1, -1, -1, -1};
        for (int spot = 0; spot < 24; spot++) {
            DUE.is("garmentAt " + spot, line.garmentAt(spot), due[spot]);
        }
        line.hang(3, 22, 1, 0);
        DUE.is("garmentAt the last", line.garmentAt(23), 3);
        for (int spot : new int[] {-1, 24, Integer.MIN_VALUE, Integer.MAX_VALUE}) {
            DUE.throwsIt("garmentAt " + spot, IllegalArgumentException.class, () -> line.garmentAt(spot));
        }
    }

    private static void promise20GarmentByPlace() {
        ClothesLine line = new ClothesLine();
        line.hang(3, 0, 1, 0);
        line.shift(0, 21);
        int[] due = {3, 1, 2, 0};
        for (int place = 0; place < 4; place++) {
            DUE.is("garmentByPlace " + place, line.garmentByPlace(place), due[place]);
        }
        for (int place : new int[] {-1, 4, 24, Integer.MIN_VALUE, Integer.MAX_VALUE}) {
            DUE.is("garmentByPlace " + place, line.garmentByPlace(place), -1);
        }
        DUE.is("garmentByPlace of none", Due.lineOf("line 0 0 0;wind 0;garment 1 1 1 1;").garmentByPlace(0), -1);
        ClothesLine small = Due.lineOf("line 9 9 0;wind 0;garment 1 1 1 0;garment 1 1 1 0;hang 1 0 1 0;hang 0 23 1 0;");
        DUE.is("at the first spot", small.garmentByPlace(0), 1);
        DUE.is("at the last spot", small.garmentByPlace(1), 0);
        ClothesLine side = Due.lineOf("line 9 9 0;wind 0;garment 2 1 1 0;garment 3 1 1 0;hang 1 2 1 0;hang 0 0 1 0;");
        DUE.is("side by side 0", side.garmentByPlace(0), 0);
        DUE.is("side by side 1", side.garmentByPlace(1), 1);
        DUE.is("side by side 2", side.garmentByPlace(2), -1);
    }
}
