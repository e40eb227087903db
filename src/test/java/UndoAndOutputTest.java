import java.util.NoSuchElementException;

/** Promises 61 to 65: undo, saved states, output. */
public final class UndoAndOutputTest {
    private static final Due DUE = new Due("UndoAndOutputTest");

    public static void main(String[] args) {
        promise61UndoOfEachChange();
        promise61UndoOfAFall();
        promise61TheLatestEight();
        promise61WhatStays();
        promise62Save();
        promise63Restore();
        promise64WriteLine();
        promise65OutputByte();
        DUE.end();
    }

    private static ClothesLine busyLine() {
        return Due.lineOf("line 9 9 6;wind 1 2;garment 1 5 990 0;garment 2 5 50 20;garment 1 1 90 90;garment 3 2 9 9;"
                + "hang 0 0 1 0;hang 1 4 1 1;shower 0 10 20;smoke 5 30;minutes 10;");
    }

    private static void promise61UndoOfEachChange() {
        undone("addGarment", line -> line.addGarment(1, 2, 3, 3));
        undone("hang", line -> line.hang(2, 9, 2, 2));
        undone("takeDown", line -> line.takeDown(1));
        undone("pickUp", line -> line.pickUp(0));
        undone("wash", line -> line.wash(2));
        undone("wash of the wet", line -> line.wash(3));
        undone("shift", line -> line.shift(1, 5));
        undone("shift to the same", line -> line.shift(1, 4));
        undone("addShower", line -> line.addShower(11, 30, 4));
        undone("addSmoke", line -> line.addSmoke(0, 500));
        undone("setWind", line -> line.setWind(0, 5));
        undone("setWind to the same", line -> line.setWind(0, 1));
        undone("passMinutes", line -> line.passMinutes(200));
        undone("runScript", line -> Due.run(line, "pick 0;wash 0;minutes 9;wind 1 0;shower 20 9 9;take 1;"));
        undone("an empty script", line -> Due.run(line, ""));
    }

    private static void promise61UndoOfAFall() {
        ClothesLine line = Due.lineOf("line 9 9 0;wind 3;garment 2 9 900 80;hang 0 0 1 0;shower 5 4 20;smoke 0 99;");
        String before = Due.seen(line);
        DUE.is("it falls", line.passMinutes(20), 1);
        line.undo();
        DUE.same("the fall is undone", Due.seen(line), before);
    }

    private interface Change {
        int make(ClothesLine line);
    }

    private static void undone(String name, Change change) {
        ClothesLine line = busyLine();
        String before = Due.seen(line);
        change.make(line);
        DUE.is(name + " is a change", line.undoCount(), 1);
        DUE.is(name + " is undone", line.undo(), 0);
        DUE.same(name + " undone", Due.seen(line), before);
    }

    private static void promise61TheLatestEight() {
        ClothesLine line = new ClothesLine();
        DUE.throwsIt("undo of nothing", IllegalStateException.class, line::undo);
        for (int i = 0; i < 12; i++) {
            line.passMinutes(1);
        }
        for (int left = 7; left >= 0; left--) {
            DUE.is("undo to " + left, line.undo(), left);
            DUE.is("minute", line.minute(), 29 + left);
        }
        DUE.throwsIt("undo of the ninth", IllegalStateException.class, line::undo);
        DUE.is("minute stays", line.minute(), 29);
        line.passMinutes(10);
        line.passMinutes(20);
        line.undo();
        line.passMinutes(100);
        DUE.is("undo after undo and change", line.undo(), 1);
        DUE.is("minute 39", line.minute(), 39);
        line.undo();
        DUE.is("minute 29", line.minute(), 29);
        DUE.throwsIt("undo of nothing again", IllegalStateException.class, line::undo);
    }

    private static void promise61WhatStays() {
        ClothesLine line = new ClothesLine();
        line.passMinutes(1);
        line.save(1);
        line.passMinutes(1);
        line.writeLine();
        Due.run(line, "x");
        Due.feed(line, "minutes 3;");
        line.undo();
        line.undo();
        DUE.is("the output stays", line.outputByte(2), 48);
        DUE.is("the reported error stays", line.errorCode() * 10 + line.errorPosition(), 10);
        DUE.is("the input stays", line.runScript(), 1);
        DUE.is("the minute", line.minute(), 28);
        DUE.is("the saved state stays", line.restore(1), 26);
    }

    private static void promise62Save() {
        ClothesLine line = new ClothesLine();
        for (int slot : new int[] {-1, 2, Integer.MIN_VALUE, Integer.MAX_VALUE}) {
            DUE.throwsIt("save " + slot, IllegalArgumentException.class, () -> line.save(slot));
        }
        DUE.is("save", line.save(0), 25);
        DUE.is("no change", line.undoCount(), 0);
        line.passMinutes(5);
        DUE.is("save in the other slot", line.save(1), 30);
        line.passMinutes(5);
        DUE.is("undo stays", line.undoCount(), 2);
        DUE.is("restore 0", line.restore(0), 25);
        DUE.is("restore 1", line.restore(1), 30);
        line.passMinutes(50);
        DUE.is("save over", line.save(0), 80);
        line.passMinutes(1);
        DUE.is("restore what was saved over", line.restore(0), 80);
        DUE.is("the other slot stays", line.restore(1), 30);
    }

    private static void promise63Restore() {
        ClothesLine line = busyLine();
        for (int slot : new int[] {-1, 2, Integer.MIN_VALUE, Integer.MAX_VALUE}) {
            DUE.throwsIt("restore " + slot, IllegalArgumentException.class, () -> line.restore(slot));
        }
        DUE.throwsIt("restore 1 of nothing", NoSuchElementException.class, () -> line.restore(1));
        String saved = Due.seen(line);
        line.save(0);
        DUE.throwsIt("restore 1", NoSuchElementException.class, () -> line.restore(1));
        Due.run(line, "pick 0;wash 0;minutes 9;wind 1 0;shower 20 9 9;take 1;garment 1 1 1 1;smoke 1 1;");
        line.setWind(0, 5);
        DUE.throwsIt("restore -1", IllegalArgumentException.class, () -> line.restore(-1));
        DUE.is("a refused restore changes nothing", line.undoCount(), 2);
        DUE.is("restore", line.restore(0), 10);
        DUE.same("restored", Due.seen(line), saved);
        DUE.throwsIt("nothing to undo", IllegalStateException.class, line::undo);
        line.passMinutes(3);
        DUE.is("it stays saved", line.restore(0), 10);
        DUE.same("restored again", Due.seen(line), saved);
        line.passMinutes(100);
        DUE.is("a change after it", line.undo(), 0);
        DUE.same("and undone", Due.seen(line), saved);
    }

    private static String written(ClothesLine line) {
        StringBuilder text = new StringBuilder();
        DUE.is("writeLine", line.writeLine(), 24);
        for (int i = 0; i < 24; i++) {
            text.append((char) line.outputByte(i));
        }
        return text.toString();
    }

    private static void promise64WriteLine() {
        ClothesLine line = new ClothesLine();
        DUE.same("the first line", written(line), "--000-**1***22222*******");
        line.passMinutes(5);
        DUE.same("the shadow goes on", written(line), "*-000--*1***22222*******");
        line.hang(3, 22, 1, 0);
        line.takeDown(0);
        DUE.same("taken and hung", written(line), "*------*1***22222*****33");
        line.addShower(30, 5, 1);
        DUE.same("in the rain", written(line), "--------1---22222-----33");
        line.undo();
        DUE.is("the output is as it was written", line.outputByte(0), '-');
        ClothesLine night = Due.lineOf("line 30 0 8;wind 0;" + "garment 1 1 1 0;".repeat(10) + "hang 9 23 1 0;"
                + "minutes 200;minutes 200;minutes 200;");
        DUE.same("around the end", written(night), "----****************---9");
    }

    private static void promise65OutputByte() {
        ClothesLine line = new ClothesLine();
        for (int index : new int[] {-1, 0, 23, 24, Integer.MIN_VALUE, Integer.MAX_VALUE}) {
            DUE.is("nothing written " + index, line.outputByte(index), -1);
        }
        line.writeLine();
        DUE.is("the first", line.outputByte(0), 45);
        DUE.is("the third", line.outputByte(2), 48);
        DUE.is("the last", line.outputByte(23), 42);
        for (int index : new int[] {-1, 24, 25, Integer.MIN_VALUE, Integer.MAX_VALUE}) {
            DUE.is("beyond " + index, line.outputByte(index), -1);
        }
    }
}
