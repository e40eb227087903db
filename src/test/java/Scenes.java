/** Lines with which several tests begin. */
final class Scenes {
    private static final String BUSY = "line 9 9 6;wind 1 2;garment 1 5 990 0;garment 2 5 50 20;garment 1 1 90 90;"
            + "garment 3 2 9 9;hang 0 0 1 0;hang 1 4 1 1;shower 0 10 20;smoke 5 30;minutes 10;";

    private static final String FULL = "line 30 30 24;wind 0 1 2 3 4 5 0 1;" + "garment 1 20 99 9;".repeat(10)
            + "shower 0 1 1;".repeat(4) + "smoke 0 9;".repeat(4) + "hang 0 0 1 0;hang 1 1 0 1;minutes 1;";

    /** Nothing that could be counted. */
    static ClothesLine empty() {
        return Due.lineOf("line 0 0 0;wind 0;");
    }

    /** Garment 0 is on the ground, 1 on the line, 2 and 3 in the basket; two changes; a state in the slot 1; no text. */
    static ClothesLine quiet() {
        ClothesLine line = Due.lineOf(BUSY);
        line.save(1);
        line.passMinutes(3);
        line.setWind(1, 3);
        line.writeLine();
        Due.run(line, "minutes x");
        return line;
    }

    /** The quiet line with a text in the input buffer. */
    static ClothesLine busy() {
        ClothesLine line = quiet();
        Due.feed(line, "minutes 7;");
        return line;
    }

    /** Ten garments, eight winds, four showers, four smoke times, eight changes; 0 on the ground, 1 on the line. */
    static ClothesLine full() {
        ClothesLine line = Due.lineOf(FULL);
        line.save(0);
        for (int i = 0; i < 8; i++) {
            line.passMinutes(1);
        }
        line.save(1);
        return line;
    }

    /** Garments 0 and 1 are on the ground, 2 is on the line, 3 in the basket; minute 6. */
    static ClothesLine fallen() {
        return Due.lineOf("line 9 9 0;wind 0;garment 1 9 990 0;garment 1 9 990 0;garment 1 1 990 0;garment 1 1 9 0;"
                + "hang 0 0 1 0;hang 1 1 1 0;hang 2 2 1 0;shower 0 6 20;minutes 6;");
    }

    /** Ten garments of the given width, hung side by side from spot 0 on as far as they have room. */
    static ClothesLine hung(int width) {
        ClothesLine line = Due.lineOf("line 30 30 0;wind 0;" + ("garment " + width + " 1 9 0;").repeat(10));
        for (int garment = 0; garment < 10 && (garment + 1) * width <= 24; garment++) {
            line.hang(garment, garment * width, 1, 0);
        }
        return line;
    }
}
