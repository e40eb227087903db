/** Promises 39 to 45: accounts. */
public final class AccountsTest {
    private static final Due DUE = new Due("AccountsTest");

    public static void main(String[] args) {
        promises39To43();
        rainOverTheCapacity();
        thinRain();
        sunBeforeWind();
        promise44MeanWater();
        promise45DryShare();
        DUE.end();
    }

    private static void accounts(String when, ClothesLine line, int inAll, int came, int sun, int wind) {
        DUE.is(when + ": waterInAll", line.waterInAll(), inAll);
        DUE.is(when + ": waterCame", line.waterCame(), came);
        DUE.is(when + ": driedBySun", line.driedBySun(), sun);
        DUE.is(when + ": driedByWind", line.driedByWind(), wind);
        DUE.is(when + ": consistencyError", line.consistencyError(), 0);
    }

    private static void promises39To43() {
        ClothesLine line = new ClothesLine();
        accounts("new", line, 515, 740, 150, 75);
        line.addGarment(1, 1, 50, 30);
        accounts("added", line, 545, 770, 150, 75);
        line.wash(4);
        accounts("washed", line, 565, 790, 150, 75);
        line.wash(4);
        accounts("washed again", line, 565, 790, 150, 75);
        line.takeDown(0);
        line.takeDown(2);
        accounts("taken", line, 565, 790, 150, 75);
        line.passMinutes(6);
        accounts("dried", line, 555, 790, 155, 80);
        line.undo();
        accounts("undone", line, 565, 790, 150, 75);
        Due.load(line, "line 0 0 0;wind 0;");
        accounts("empty", line, 0, 0, 0, 0);
    }

    private static void rainOverTheCapacity() {
        ClothesLine line = Due.lineOf("line 9 9 0;wind 5;garment 3 1 50 40;hang 0 0 0 1;shower 0 2 2;shower 1 1 1;");
        line.passMinutes(1);
        accounts("rain 2 on 3 spots", line, 46, 46, 0, 0);
        line.passMinutes(1);
        accounts("rain to the capacity", line, 50, 50, 0, 0);
        line.passMinutes(1);
        accounts("sun 3 and wind 5", line, 42, 50, 3, 5);
    }

    private static void thinRain() {
        ClothesLine line = Due.lineOf("line 9 9 0;wind 5;garment 3 1 50 40;hang 0 0 0 1;shower 0 1 1;");
        line.passMinutes(1);
        accounts("rain 1 on 3 spots, without sun and wind", line, 43, 43, 0, 0);
    }

    private static void sunBeforeWind() {
        ClothesLine line = Due.lineOf("line 9 9 1;wind 5;garment 3 1 50 4;hang 0 0 0 1;");
        line.passMinutes(1);
        accounts("sun 2, then wind as far as water is there", line, 0, 4, 2, 2);
        line.passMinutes(1);
        accounts("nothing left", line, 0, 4, 2, 2);
        ClothesLine wet = Due.lineOf("line 9 9 0;wind 5;garment 6 1 50 4;hang 0 0 0 1;minutes 1;");
        accounts("sun alone", wet, 0, 4, 4, 0);
    }

    private static void promise44MeanWater() {
        DUE.isReal("mean of none", Due.lineOf("line 0 0 0;wind 0;").meanWater(), 0.0);
        DUE.isReal("mean of four", new ClothesLine().meanWater(), 128.75);
        ClothesLine line = Due.lineOf("line 0 0 0;wind 0;garment 1 1 9 5;garment 1 1 9 2;garment 1 1 9 3;");
        DUE.isReal("mean of three", line.meanWater(), 10.0 / 3.0);
    }

    private static void promise45DryShare() {
        DUE.isReal("share of none", Due.lineOf("line 0 0 0;wind 0;").dryShare(), 0.0f);
        DUE.isReal("share of four", new ClothesLine().dryShare(), 0.25f);
        ClothesLine line = Due.lineOf("line 0 0 0;wind 0;garment 1 1 9 5;garment 1 1 9 0;garment 1 1 9 3;");
        DUE.isReal("share of three", line.dryShare(), 1.0f / 3.0f);
        DUE.isReal("share of all", Due.lineOf("line 0 0 0;wind 0;garment 1 1 9 0;").dryShare(), 1.0f);
    }
}
