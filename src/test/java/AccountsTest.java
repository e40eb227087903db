/** Promises 39 to 45: accounts. */
public final class AccountsTest {
    private static final Due DUE = new Due("AccountsTest");

    public static void main(String[] args) {
        DUE.everyTestOf(AccountsTest.class);
    }

    private static void accounts(String when, ClothesLine line, int inAll, int came, int sun, int wind) {
        DUE.is(when + ": waterInAll", line.waterInAll(), inAll);
        DUE.is(when + ": waterCame", line.waterCame(), came);
        DUE.is(when + ": driedBySun", line.driedBySun(), sun);
        DUE.is(when + ": driedByWind", line.driedByWind(), wind);
        DUE.is(when + ": consistencyError", line.consistencyError(), 0);
    }

    /** "Returns the water of all garments.": on the line, on the ground, in the basket */
    static void p39GarmentsInEachState() {
        ClothesLine line = Scenes.fallen();
        DUE.is("sum", line.waterInAll(), line.waterOf(0) + line.waterOf(1) + line.waterOf(2) + line.waterOf(3));
        DUE.is("number", line.waterInAll(), 360);
        line.wash(3);
        DUE.is("washed", line.waterInAll(), 369);
    }

    static void p39NoGarmentAndTen() {
        DUE.is("none", Scenes.empty().waterInAll(), 0);
        ClothesLine line = Due.lineOf("line 0 0 0;wind 0;" + "garment 1 1 999 999;".repeat(10));
        DUE.is("ten", line.waterInAll(), 9990);
        line.addShower(0, 9, 20);
        line.passMinutes(9);
        DUE.is("the basket stays dry", line.waterInAll(), 9990);
    }

    /** "the water of all garments when they were added" */
    static void p40TheWaterOfAddedGarments() {
        ClothesLine line = Scenes.empty();
        accounts("no garment", line, 0, 0, 0, 0);
        line.addGarment(1, 1, 50, 0);
        accounts("added dry", line, 0, 0, 0, 0);
        line.addGarment(1, 1, 50, 30);
        accounts("added wet", line, 30, 30, 0, 0);
    }

    /** "and what rain and washing added to them": washing adds what is missing to the capacity */
    static void p40WhatWashingAdded() {
        ClothesLine line = Due.lineOf("line 0 0 0;wind 0;garment 1 1 50 30;");
        line.wash(0);
        accounts("washed", line, 50, 50, 0, 0);
        line.wash(0);
        accounts("washed again", line, 50, 50, 0, 0);
    }

    /** "the water increases by the rain multiplied by the width, but at most to the capacity" */
    static void p40WhatRainAdded() {
        ClothesLine line = Due.lineOf("line 9 9 0;wind 5;garment 3 1 50 40;hang 0 0 0 1;shower 0 2 2;shower 1 1 1;");
        line.passMinutes(1);
        accounts("rain 2 on 3 spots", line, 46, 46, 0, 0);
        line.passMinutes(1);
        accounts("rain to the capacity", line, 50, 50, 0, 0);
        line.passMinutes(1);
        accounts("sun 3 and wind 5", line, 42, 50, 3, 5);
    }

    static void p40OtherChangesAddNothing() {
        ClothesLine line = new ClothesLine();
        accounts("new", line, 515, 740, 150, 75);
        line.takeDown(0);
        line.shift(1, 5);
        line.hang(3, 20, 1, 0);
        accounts("taken, shifted, hung", line, 515, 740, 150, 75);
        line.addShower(0, 9, 9);
        line.addSmoke(0, 9);
        line.setWind(0, 5);
        accounts("weather", line, 515, 740, 150, 75);
    }

    static void p40PickingUpAddsNothing() {
        ClothesLine line = Scenes.fallen();
        accounts("fallen", line, 360, 360, 0, 0);
        line.pickUp(0);
        accounts("picked up", line, 360, 360, 0, 0);
    }

    /** "Water leaves garments in no other way." than by sun and wind: all is in the shade here, and there is no wind */
    static void p40WaterLeavesInNoOtherWay() {
        ClothesLine line = Due.lineOf("line 9 9 24;wind 0;garment 2 19 99 9;shower 9 1 6;smoke 0 99;");
        line.hang(0, 0, 1, 0);
        line.passMinutes(9);
        accounts("hung in the shade", line, 9, 9, 0, 0);
        line.shift(0, 7);
        line.takeDown(0);
        line.hang(0, 3, 1, 0);
        accounts("shifted, taken down, hung again", line, 9, 9, 0, 0);
        DUE.is("it falls in the rain", line.passMinutes(1), 1);
        accounts("fallen", line, 21, 21, 0, 0);
        line.passMinutes(9);
        line.pickUp(0);
        line.hang(0, 3, 0, 1);
        line.passMinutes(9);
        accounts("picked up, hung again", line, 21, 21, 0, 0);
    }

    static void p40UndoAndRestoreBringItBack() {
        ClothesLine line = new ClothesLine();
        line.save(0);
        line.wash(3);
        line.passMinutes(6);
        accounts("washed and dried", line, 553, 830, 185, 92);
        line.undo();
        accounts("undone", line, 605, 830, 150, 75);
        line.undo();
        accounts("undone again", line, 515, 740, 150, 75);
        line.passMinutes(5);
        line.restore(0);
        accounts("restored", line, 515, 740, 150, 75);
        Due.load(line, "line 0 0 0;wind 0;");
        accounts("loaded", line, 0, 0, 0, 0);
    }

    /** "What the sun dried ... is the water that the garments lost in step 1": not more than there is */
    static void p41AtMostTheWater() {
        ClothesLine line = Due.lineOf("line 9 9 0;wind 5;garment 6 1 50 10;hang 0 0 0 1;");
        line.passMinutes(1);
        accounts("sun 6, and what is left for the wind", line, 0, 10, 6, 4);
        line.passMinutes(1);
        accounts("nothing is left", line, 0, 10, 6, 4);
        accounts("the sun takes all", Due.lineOf("line 9 9 0;wind 5;garment 6 1 50 4;hang 0 0 0 1;minutes 1;"), 0, 4, 4, 0);
        accounts("just all", Due.lineOf("line 9 9 0;wind 5;garment 6 1 50 6;hang 0 0 0 1;minutes 1;"), 0, 6, 6, 0);
    }

    static void p41InTheShadowTheSunDriesNothing() {
        accounts("shadow", Due.lineOf("line 9 9 24;wind 0;garment 6 1 50 40;hang 0 0 0 1;minutes 9;"), 40, 40, 0, 0);
        accounts("half", Due.lineOf("line 9 9 3;wind 0;garment 6 1 50 40;hang 0 0 0 1;minutes 9;"), 13, 40, 27, 0);
    }

    static void p41InTheRainTheSunDriesNothing() {
        accounts("rain", Due.lineOf("line 9 9 0;wind 5;garment 3 1 99 40;hang 0 0 0 1;shower 0 9 1;minutes 9;"), 67, 67, 0, 0);
    }

    /** "and then by the wind, but ... not below 0" */
    static void p42AfterTheSunAndAtMostTheWater() {
        ClothesLine line = Due.lineOf("line 9 9 1;wind 5;garment 3 1 50 4;hang 0 0 0 1;");
        line.passMinutes(1);
        accounts("sun 2, then 2 of the wind's 5", line, 0, 4, 2, 2);
        line.passMinutes(1);
        accounts("nothing is left", line, 0, 4, 2, 2);
        accounts("just all", Due.lineOf("line 9 9 24;wind 5;garment 3 1 50 5;hang 0 0 0 1;minutes 1;"), 0, 5, 0, 5);
        accounts("one is left", Due.lineOf("line 9 9 24;wind 5;garment 3 1 50 6;hang 0 0 0 1;minutes 1;"), 1, 6, 0, 5);
    }

    static void p42TheWindDriesByWhatItIsNotByTheWidth() {
        accounts("wind 2", Due.lineOf("line 9 9 24;wind 2;garment 6 1 50 40;hang 0 0 0 1;minutes 3;"), 34, 40, 0, 6);
        accounts("wind 0", Due.lineOf("line 9 9 24;wind 0;garment 6 1 50 40;hang 0 0 0 1;minutes 3;"), 40, 40, 0, 0);
    }

    /** "always 0" */
    static void p43Always0() {
        DUE.is("no garment", Scenes.empty().consistencyError(), 0);
        DUE.is("new", new ClothesLine().consistencyError(), 0);
        DUE.is("busy", Scenes.busy().consistencyError(), 0);
        DUE.is("full", Scenes.full().consistencyError(), 0);
        DUE.is("fallen", Scenes.fallen().consistencyError(), 0);
        DUE.is("no free spot", Scenes.hung(6).consistencyError(), 0);
    }

    static void p43AfterEachMinute() {
        ClothesLine line = Due.lineOf("line 9 9 6;wind 1 0 5;garment 3 12 200 180;garment 1 4 60 60;garment 5 40 600 500;"
                + "hang 0 0 2 0;hang 1 3 1 0;hang 2 4 1 2;shower 20 9 3;shower 99 50 20;");
        for (int i = 0; i < 200; i++) {
            line.passMinutes(1);
            DUE.is("minute " + i, line.consistencyError(), 0);
        }
    }

    /** "the water of all garments, converted to double, divided by their number, converted to double" */
    static void p44WaterByNumber() {
        DUE.isReal("four", new ClothesLine().meanWater(), 128.75);
        ClothesLine three = Due.lineOf("line 0 0 0;wind 0;garment 1 1 9 5;garment 1 1 9 2;garment 1 1 9 3;");
        DUE.isReal("three", three.meanWater(), 10.0 / 3.0);
        DUE.isReal("dry", Due.lineOf("line 0 0 0;wind 0;garment 1 1 9 0;").meanWater(), 0.0);
        ClothesLine ten = Due.lineOf("line 0 0 0;wind 0;garment 1 1 9 1;" + "garment 1 1 9 0;".repeat(9));
        DUE.isReal("ten", ten.meanWater(), 1.0 / 10.0);
    }

    /** "0.0 without garments" */
    static void p44WithoutGarments() {
        DUE.isReal("none", Scenes.empty().meanWater(), 0.0);
    }

    /** "the number of garments without water, converted to float, divided by the number of garments" */
    static void p45DryByNumber() {
        DUE.isReal("one of four", new ClothesLine().dryShare(), 0.25f);
        ClothesLine three = Due.lineOf("line 0 0 0;wind 0;garment 1 1 9 5;garment 1 1 9 0;garment 1 1 9 3;");
        DUE.isReal("one of three", three.dryShare(), 1.0f / 3.0f);
        DUE.isReal("all of ten", Scenes.hung(2).dryShare(), 1.0f);
        DUE.isReal("none of ten", Scenes.full().dryShare(), 0.0f);
        ClothesLine ten = Due.lineOf("line 0 0 0;wind 0;" + "garment 1 1 9 1;".repeat(3) + "garment 1 1 9 0;".repeat(7));
        DUE.isReal("seven of ten", ten.dryShare(), 7.0f / 10.0f);
    }

    /** "0.0f without garments" */
    static void p45WithoutGarments() {
        DUE.isReal("none", Scenes.empty().dryShare(), 0.0f);
    }
}
