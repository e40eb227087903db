/** Promises 7 to 14: time and weather. */
public final class WeatherTest {
    private static final int ALL = 0xFFFFFF;
    private static final Due DUE = new Due("WeatherTest");

    public static void main(String[] args) {
        promise7Minute();
        promise8ShadowWidth();
        promise9UndoCount();
        promise10WindIn();
        promise11RainIn();
        promise12SunnySpots();
        promise13SmokySpots();
        promise14MinutesToRain();
        wrongMinutes();
        DUE.end();
    }

    private static void promise7Minute() {
        ClothesLine line = Due.lineOf("line 0 0 0;wind 0;");
        DUE.is("minute 0", line.minute(), 0);
        line.passMinutes(1);
        DUE.is("minute 1", line.minute(), 1);
        for (int i = 0; i < 15; i++) {
            Due.run(line, "minutes 200;".repeat(40));
        }
        DUE.is("minute behind the forecasts", line.minute(), 120001);
        DUE.is("sun behind the forecasts", line.writeLine() + line.outputByte(0), 24 + 42);
    }

    private static void promise8ShadowWidth() {
        DUE.is("shadow 0", Due.lineOf("line 0 0 0;wind 0;").shadowWidth(), 0);
        DUE.is("shadow 24", Due.lineOf("line 0 0 24;wind 0;").shadowWidth(), 24);
    }

    private static void promise9UndoCount() {
        ClothesLine line = new ClothesLine();
        for (int i = 1; i <= 10; i++) {
            line.passMinutes(1);
            DUE.is("undoCount after " + i, line.undoCount(), Math.min(i, 8));
        }
        line.undo();
        DUE.is("undoCount less one", line.undoCount(), 7);
        line.save(0);
        line.writeLine();
        DUE.is("undoCount: no changes", line.undoCount(), 7);
        line.restore(0);
        DUE.is("undoCount after restore", line.undoCount(), 0);
    }

    private static void promise10WindIn() {
        ClothesLine line = new ClothesLine();
        int[] winds = {1, 0, 3};
        for (int minute = 0; minute < 1000; minute++) {
            DUE.is("windIn " + minute, line.windIn(minute), winds[minute / 60 % 3]);
        }
        DUE.is("windIn the last", line.windIn(99999), winds[1666 % 3]);
        DUE.is("windIn one wind", Due.lineOf("line 0 0 0;wind 4;").windIn(77777), 4);
    }

    private static void promise11RainIn() {
        ClothesLine line = Due.lineOf("line 0 0 0;wind 0;shower 10 5 3;shower 14 2 20;shower 9999 200 1;shower 14 1 2;");
        DUE.is("rain 9", line.rainIn(9), 0);
        DUE.is("rain 10", line.rainIn(10), 3);
        DUE.is("rain 13", line.rainIn(13), 3);
        DUE.is("rain 14", line.rainIn(14), 25);
        DUE.is("rain 15", line.rainIn(15), 20);
        DUE.is("rain 16", line.rainIn(16), 0);
        DUE.is("rain 9998", line.rainIn(9998), 0);
        DUE.is("rain 10198", line.rainIn(10198), 1);
        DUE.is("rain 10199", line.rainIn(10199), 0);
        DUE.is("rain 99999", line.rainIn(99999), 0);
        line.passMinutes(200);
        DUE.is("rain that is over", line.rainIn(12), 3);
    }

    private static void promise12SunnySpots() {
        ClothesLine line = Due.lineOf("line 0 0 6;wind 0;shower 100 1 1;");
        DUE.is("sunny 0", line.sunnySpots(0), ALL & ~0x3F);
        DUE.is("sunny 29", line.sunnySpots(29), ALL & ~0x3F);
        DUE.is("sunny 30", line.sunnySpots(30), ALL & ~(0x3F << 1));
        DUE.is("sunny in rain", line.sunnySpots(100), 0);
        DUE.is("sunny after rain", line.sunnySpots(101), ALL & ~(0x3F << 3));
        DUE.is("sunny 540", line.sunnySpots(540), ALL & ~(0x3F << 18));
        DUE.is("sunny 570", line.sunnySpots(570), 0x7FFFE);
        DUE.is("sunny 719", line.sunnySpots(719), 0x7FFFE0);
        DUE.is("sunny 720", line.sunnySpots(720), ALL & ~0x3F);
        DUE.is("sunny 99999", line.sunnySpots(99999), ALL & ~((0x3F << 21 | 0x7) & ALL));
        for (int minute = 0; minute < 1440; minute += 30) {
            DUE.is("sunny without shadow", Due.lineOf("line 0 0 0;wind 0;").sunnySpots(minute), ALL);
            DUE.is("sunny all shadow", Due.lineOf("line 0 0 24;wind 0;").sunnySpots(minute), 0);
            DUE.is("sunny one", Due.lineOf("line 0 0 23;wind 0;").sunnySpots(minute), 1 << (minute / 30 + 23) % 24);
            DUE.is("shadow one", Due.lineOf("line 0 0 1;wind 0;").sunnySpots(minute), ALL & ~(1 << minute / 30 % 24));
        }
    }

    private static void promise13SmokySpots() {
        ClothesLine line = Due.lineOf("line 0 0 0;wind 1 0 5 3;smoke 59 60;smoke 120 120;smoke 120 200;smoke 9999 9999;");
        DUE.is("smoke 58", line.smokySpots(58), 0);
        DUE.is("smoke 59", line.smokySpots(59), 0xF);
        DUE.is("smoke 60: no wind", line.smokySpots(60), 0);
        DUE.is("smoke 119", line.smokySpots(119), 0);
        DUE.is("smoke 120", line.smokySpots(120), 0xFFFFF);
        DUE.is("smoke 179", line.smokySpots(179), 0xFFFFF);
        DUE.is("smoke 180", line.smokySpots(180), 0xFFF);
        DUE.is("smoke 200", line.smokySpots(200), 0xFFF);
        DUE.is("smoke 201", line.smokySpots(201), 0);
        DUE.is("smoke 9999", line.smokySpots(9999), 0xFFFFF);
        DUE.is("smoke 10000", line.smokySpots(10000), 0);
        DUE.is("smoke 99999", line.smokySpots(99999), 0);
    }

    private static void promise14MinutesToRain() {
        ClothesLine line = Due.lineOf("line 0 0 0;wind 0;");
        DUE.is("no shower", line.minutesToRain(), -1);
        line.addShower(50, 10, 1);
        DUE.is("to 50", line.minutesToRain(), 50);
        line.addShower(20, 5, 1);
        DUE.is("to 20", line.minutesToRain(), 20);
        line.passMinutes(20);
        DUE.is("it rains", line.minutesToRain(), 0);
        line.passMinutes(4);
        DUE.is("the last minute of the rain", line.minutesToRain(), 0);
        line.passMinutes(1);
        DUE.is("the next rain", line.minutesToRain(), 25);
        line.addShower(9999, 1, 1);
        line.passMinutes(35);
        DUE.is("far rain", line.minutesToRain(), 9999 - 60);
        DUE.is("far rain came", runTo(line, 9999), 0);
        line.passMinutes(1);
        DUE.is("all rain is over", line.minutesToRain(), -1);
    }

    private static int runTo(ClothesLine line, int minute) {
        while (line.minute() < minute) {
            line.passMinutes(Math.min(200, minute - line.minute()));
        }
        return line.minutesToRain();
    }

    private static void wrongMinutes() {
        ClothesLine line = new ClothesLine();
        for (int minute : new int[] {-1, 100000, Integer.MIN_VALUE, Integer.MAX_VALUE}) {
            DUE.throwsIt("windIn " + minute, IllegalArgumentException.class, () -> line.windIn(minute));
            DUE.throwsIt("rainIn " + minute, IllegalArgumentException.class, () -> line.rainIn(minute));
            DUE.throwsIt("sunnySpots " + minute, IllegalArgumentException.class, () -> line.sunnySpots(minute));
            DUE.throwsIt("smokySpots " + minute, IllegalArgumentException.class, () -> line.smokySpots(minute));
        }
    }
}
