import java.math.BigInteger;
import java.util.ArrayDeque;
import java.util.ArrayList;
import java.util.Arrays;
import java.util.Deque;
import java.util.List;
import java.util.NoSuchElementException;
import java.util.regex.Matcher;
import java.util.regex.Pattern;

/**
 * The document once more, written from its words and in another way than the program: spot by spot, with copies of the
 * whole state, a bag that is kept, and texts by regular expressions. Slow, and only to be compared with.
 */
public final class Model {
    private static final class Cloth {
        int width, dry, capacity, water, smell, falls;
        boolean dirty;
        int state = 0, spot = -1, wooden, steel;

        Cloth copy() {
            Cloth c = new Cloth();
            c.width = width; c.dry = dry; c.capacity = capacity; c.water = water; c.smell = smell; c.falls = falls;
            c.dirty = dirty; c.state = state; c.spot = spot; c.wooden = wooden; c.steel = steel;
            return c;
        }

        int weight() { return dry + (int) Math.floor(water / 10.0); }
        int hold() { return 20 * wooden + 45 * steel; }
        boolean on(int s) { return state == 1 && s >= spot && s <= spot + width - 1; }
    }

    private static final class World {
        int bagWooden, bagSteel, shadow, minute, came, sun, wind;
        List<Integer> winds = new ArrayList<>();
        List<int[]> showers = new ArrayList<>();
        List<int[]> smokes = new ArrayList<>();
        List<Cloth> clothes = new ArrayList<>();

        World copy() {
            World w = new World();
            w.bagWooden = bagWooden; w.bagSteel = bagSteel; w.shadow = shadow; w.minute = minute;
            w.came = came; w.sun = sun; w.wind = wind;
            w.winds.addAll(winds); w.showers.addAll(showers); w.smokes.addAll(smokes);
            for (Cloth c : clothes) { w.clothes.add(c.copy()); }
            return w;
        }

        int windIn(int m) { return winds.get(m / 60 % winds.size()); }

        int rainIn(int m) {
            int sum = 0;
            for (int[] s : showers) {
                for (int k = 0; k < s[1]; k++) { if (s[0] + k == m) { sum += s[2]; } }
            }
            return sum;
        }

        boolean sunny(int spot, int m) {
            if (rainIn(m) > 0) { return false; }
            int begin = m / 30 % 24;
            for (int k = 0; k < shadow; k++) { if ((begin + k) % 24 == spot) { return false; } }
            return true;
        }

        boolean smoky(int spot, int m) {
            for (int[] s : smokes) { if (s[0] <= m && m <= s[1] && spot < 4 * windIn(m)) { return true; } }
            return false;
        }

        int occupant(int spot) {
            for (Cloth c : clothes) { if (c.on(spot)) { return clothes.indexOf(c); } }
            return -1;
        }

        int pass(boolean mayFall) {
            int fell = 0;
            List<Cloth> hanging = new ArrayList<>();
            for (int s = 0; s < 24; s++) {
                int g = occupant(s);
                if (g >= 0 && !hanging.contains(clothes.get(g))) { hanging.add(clothes.get(g)); }
            }
            int rain = rainIn(minute);
            int windNow = windIn(minute);
            for (Cloth c : hanging) {
                if (rain > 0) {
                    for (int k = 0; k < rain * c.width; k++) { if (c.water < c.capacity) { c.water++; came++; } }
                } else {
                    for (int s = 0; s < 24; s++) {
                        if (c.on(s) && sunny(s, minute) && c.water > 0) { c.water--; sun++; }
                    }
                    for (int k = 0; k < windNow; k++) { if (c.water > 0) { c.water--; wind++; } }
                }
                boolean reached = false;
                for (int s = 0; s < 24; s++) { reached |= c.on(s) && smoky(s, minute); }
                if (reached) {
                    if (c.smell < 99) { c.smell++; }
                } else if (windNow > 0 && c.smell > 0) {
                    c.smell--;
                }
                if (mayFall && c.weight() > c.hold()) {
                    c.state = 2; c.dirty = true; c.falls++; fell++;
                    unpeg(c);
                }
            }
            minute++;
            return fell;
        }

        void unpeg(Cloth c) {
            bagWooden += c.wooden; bagSteel += c.steel;
            c.wooden = 0; c.steel = 0; c.spot = -1;
        }
    }

    private static final class Wrong extends Exception {
        private static final long serialVersionUID = 1;
        final int code, position;
        Wrong(int code, int position) { this.code = code; this.position = position; }
    }

    private World w = new World();
    private final StringBuilder input = new StringBuilder();
    private String output = "";
    private int code = 0, position = -1;
    private final World[] slots = new World[2];
    private Deque<World> past = new ArrayDeque<>();

    public Model() {
        input.append("line 8 3 6; wind 1 0 3; garment 3 12 200 180; garment 1 4 60 60; garment 5 40 600 500; "
                + "garment 2 9 90 0; shower 100 20 2; smoke 30 70; hang 0 2 2 0; hang 1 8 1 0; hang 2 12 1 2; minutes 25;");
        loadSetup();
    }

    // texts
    public int feed(int a, int b, int c, int d, int e) {
        StringBuilder more = new StringBuilder();
        for (int x : new int[] {a, b, c, d, e}) {
            for (byte one : java.nio.ByteBuffer.allocate(4).putInt(x).array()) {
                if (one != 0) { more.append((char) Byte.toUnsignedInt(one)); }
            }
        }
        if (input.length() + more.length() > 700) { return -1; }
        return input.append(more).length();
    }

    private record Token(String text, int at) { }

    private List<Token> tokens;
    private int at;

    private void tokenize() {
        tokens = new ArrayList<>();
        Matcher m = Pattern.compile("[ \n]+|([a-z]+|[0-9]+|[^ \n])", Pattern.DOTALL).matcher(input);
        while (m.find()) { if (m.group(1) != null) { tokens.add(new Token(m.group(1), m.start(1))); } }
        tokens.add(new Token("", input.length()));
        at = 0;
    }

    private Token take() { return tokens.get(at++); }

    private void must(String text) throws Wrong {
        Token t = take();
        if (!t.text.equals(text)) { throw new Wrong(1, t.at); }
    }

    private int number(int low, int high) throws Wrong {
        Token t = take();
        if (!t.text.matches("[0-9]+")) { throw new Wrong(1, t.at); }
        BigInteger n = new BigInteger(t.text);
        if (n.compareTo(BigInteger.valueOf(low)) < 0 || n.compareTo(BigInteger.valueOf(high)) > 0) { throw new Wrong(2, t.at); }
        return n.intValueExact();
    }

    private int commands() throws Wrong {
        int count = 0;
        while (!tokens.get(at).text.isEmpty()) {
            Token word = take();
            if (!Arrays.asList("garment", "hang", "take", "pick", "wash", "shift", "shower", "smoke", "wind", "minutes")
                    .contains(word.text)) { throw new Wrong(1, word.at); }
            boolean full = word.text.equals("garment") && w.clothes.size() == 10
                    || word.text.equals("shower") && w.showers.size() == 4 || word.text.equals("smoke") && w.smokes.size() == 4;
            if (full || count == 40) { throw new Wrong(4, word.at); }
            command(word.text);
            count++;
        }
        return count;
    }

    private void command(String word) throws Wrong {
        int last = w.clothes.size() - 1;
        int[] n = new int[4];
        switch (word) {
            case "garment" -> { n[0] = number(1, 6); n[1] = number(1, 99); n[2] = number(1, 999); n[3] = number(0, n[2]); }
            case "hang" -> { n[0] = number(0, last); n[1] = number(0, 23); n[2] = number(0, 4); n[3] = number(0, 4); }
            case "take", "pick", "wash" -> n[0] = number(0, last);
            case "shift" -> { n[0] = number(0, last); n[1] = number(0, 23); }
            case "shower" -> { n[0] = number(0, 9999); n[1] = number(1, 200); n[2] = number(1, 20); }
            case "smoke" -> { n[0] = number(0, 9999); n[1] = number(n[0], 9999); }
            case "wind" -> { n[0] = number(0, w.winds.size() - 1); n[1] = number(0, 5); }
            default -> n[0] = number(1, 200);
        }
        int semicolon = tokens.get(at).at;
        must(";");
        try {
            switch (word) {
                case "garment" -> addGarment(n[0], n[1], n[2], n[3]);
                case "hang" -> hang(n[0], n[1], n[2], n[3]);
                case "take" -> takeDown(n[0]);
                case "pick" -> pickUp(n[0]);
                case "wash" -> wash(n[0]);
                case "shift" -> shift(n[0], n[1]);
                case "shower" -> addShower(n[0], n[1], n[2]);
                case "smoke" -> addSmoke(n[0], n[1]);
                case "wind" -> setWind(n[0], n[1]);
                default -> passMinutes(n[0]);
            }
        } catch (IllegalStateException e) {
            throw new Wrong(3, semicolon);
        }
    }

    public int loadSetup() {
        World before = w;
        Deque<World> pastBefore = past;
        past = new ArrayDeque<>();
        tokenize();
        input.setLength(0);
        try {
            w = new World();
            must("line");
            w.bagWooden = number(0, 30); w.bagSteel = number(0, 30); w.shadow = number(0, 24);
            must(";");
            must("wind");
            w.winds.add(number(0, 5));
            while (!tokens.get(at).text.equals(";")) {
                int where = tokens.get(at).at;
                int wind = number(0, 5);
                if (w.winds.size() == 8) { throw new Wrong(4, where); }
                w.winds.add(wind);
            }
            must(";");
            commands();
        } catch (Wrong e) {
            w = before; past = pastBefore; code = e.code; position = e.position;
            return -1;
        }
        past.clear();
        slots[0] = null; slots[1] = null;
        code = 0; position = -1;
        return w.clothes.size();
    }

    public int runScript() {
        World before = w;
        Deque<World> pastBefore = past;
        past = new ArrayDeque<>();
        tokenize();
        input.setLength(0);
        w = w.copy();
        int count;
        try {
            count = commands();
        } catch (Wrong e) {
            w = before; past = pastBefore; code = e.code; position = e.position;
            return -1;
        }
        past = pastBefore;
        remember(before);
        code = 0; position = -1;
        return count;
    }

    private void remember(World before) {
        past.addLast(before);
        if (past.size() > 8) { past.removeFirst(); }
    }

    private void change() { remember(w.copy()); }

    public int errorCode() { return code; }
    public int errorPosition() { return position; }
    public int minute() { return w.minute; }
    public int shadowWidth() { return w.shadow; }
    public int undoCount() { return past.size(); }

    private static void in(int x, int low, int high) { if (x < low || x > high) { throw new IllegalArgumentException(); } }
    private static void may(boolean b) { if (!b) { throw new IllegalStateException(); } }

    public int windIn(int minute) { in(minute, 0, 99999); return w.windIn(minute); }
    public int rainIn(int minute) { in(minute, 0, 99999); return w.rainIn(minute); }

    public int sunnySpots(int minute) {
        in(minute, 0, 99999);
        int set = 0;
        for (int s = 0; s < 24; s++) { if (w.sunny(s, minute)) { set += 1 << s; } }
        return set;
    }

    public int smokySpots(int minute) {
        in(minute, 0, 99999);
        int set = 0;
        for (int s = 0; s < 24; s++) { if (w.smoky(s, minute)) { set += 1 << s; } }
        return set;
    }

    public int minutesToRain() {
        for (int m = w.minute; m < 10200; m++) { if (w.rainIn(m) > 0) { return m - w.minute; } }
        return -1;
    }

    public int woodenLeft() { return w.bagWooden; }
    public int steelLeft() { return w.bagSteel; }

    public int freeSpots() {
        int set = 0;
        for (int s = 0; s < 24; s++) { if (w.occupant(s) < 0) { set += 1 << s; } }
        return set;
    }

    public int longestGap() {
        for (int n = 24; n > 0; n--) {
            for (int s = 0; s + n <= 24; s++) {
                boolean free = true;
                for (int k = s; k < s + n; k++) { free &= w.occupant(k) < 0; }
                if (free) { return n; }
            }
        }
        return 0;
    }

    public int garmentAt(int spot) { in(spot, 0, 23); return w.occupant(spot); }

    public int garmentByPlace(int place) {
        List<Cloth> hanging = new ArrayList<>();
        for (Cloth c : w.clothes) { if (c.state == 1) { hanging.add(c); } }
        hanging.sort((p, q) -> p.spot - q.spot);
        return place < 0 || place >= hanging.size() ? -1 : w.clothes.indexOf(hanging.get(place));
    }

    public int garmentCount() { return w.clothes.size(); }

    private Cloth the(int g) {
        if (g < 0 || g >= w.clothes.size()) { throw new IndexOutOfBoundsException(); }
        return w.clothes.get(g);
    }

    public int stateOf(int g) { return the(g).state; }
    public int widthOf(int g) { return the(g).width; }
    public int dryWeight(int g) { return the(g).dry; }
    public int capacityOf(int g) { return the(g).capacity; }
    public int waterOf(int g) { return the(g).water; }
    public int weightOf(int g) { return the(g).weight(); }
    public int smellOf(int g) { return the(g).smell; }
    public int spotOf(int g) { return the(g).spot; }
    public int woodenOf(int g) { return the(g).wooden; }
    public int steelOf(int g) { return the(g).steel; }
    public int holdOf(int g) { return the(g).hold(); }
    public int fallsOf(int g) { return the(g).falls; }
    public boolean isDirty(int g) { return the(g).dirty; }

    public int garmentsIn(int state) {
        in(state, 0, 2);
        int set = 0;
        for (int g = 0; g < w.clothes.size(); g++) { if (the(g).state == state) { set += 1 << g; } }
        return set;
    }

    public int dryGarments() {
        int set = 0;
        for (int g = 0; g < w.clothes.size(); g++) { if (the(g).water == 0) { set += 1 << g; } }
        return set;
    }

    private boolean room(Cloth c, int spot) {
        for (int s = spot; s < spot + c.width; s++) { if (w.occupant(s) >= 0 && !c.on(s)) { return false; } }
        return true;
    }

    public int hangObstacle(int garment, int spot, int wooden, int steel) {
        Cloth c = the(garment);
        in(spot, 0, 23); in(wooden, 0, 4); in(steel, 0, 4);
        if (c.state != 0) { return 1; }
        if (spot + c.width - 1 > 23) { return 2; }
        if (!room(c, spot)) { return 3; }
        if (wooden + steel < 1 || wooden + steel > 4) { return 4; }
        if (w.bagWooden < wooden || w.bagSteel < steel) { return 5; }
        if (c.weight() > wooden * 20 + steel * 45) { return 6; }
        return 0;
    }

    public int fewestPegs(int garment) {
        Cloth c = the(garment);
        for (int n = 1; n <= 4; n++) {
            for (int steel = 0; steel <= n; steel++) {
                int wooden = n - steel;
                if (steel <= w.bagSteel && wooden <= w.bagWooden && wooden * 20 + steel * 45 >= c.weight()) { return n; }
            }
        }
        return -1;
    }

    public int waterInAll() { return w.clothes.stream().mapToInt(c -> c.water).sum(); }
    public int waterCame() { return w.came; }
    public int driedBySun() { return w.sun; }
    public int driedByWind() { return w.wind; }
    public int consistencyError() { return 0; }
    public double meanWater() { return w.clothes.isEmpty() ? 0.0 : (double) waterInAll() / (double) w.clothes.size(); }
    public float dryShare() { return w.clothes.isEmpty() ? 0.0f : (float) Integer.bitCount(dryGarments()) / (float) w.clothes.size(); }

    private World later(int minutes) {
        World copy = w.copy();
        for (int m = 0; m < minutes; m++) { copy.pass(true); }
        return copy;
    }

    public int waterAfter(int garment, int minutes) {
        the(garment);
        in(minutes, 0, 500);
        return later(minutes).clothes.get(garment).water;
    }

    public int minutesToDry(int garment) {
        the(garment);
        World copy = w.copy();
        for (int m = 0; m <= 500; m++, copy.pass(true)) { if (copy.clothes.get(garment).water == 0) { return m; } }
        return -1;
    }

    public int minutesToFall(int garment) {
        int falls = the(garment).falls;
        World copy = w.copy();
        for (int m = 1; m <= 500; m++) {
            copy.pass(true);
            if (copy.clothes.get(garment).falls == falls + 1) { return m; }
        }
        return -1;
    }

    public int garmentsAtRisk() {
        World then = later(60);
        int set = 0;
        for (int g = 0; g < w.clothes.size(); g++) { if (the(g).state == 1 && then.clothes.get(g).falls > the(g).falls) { set += 1 << g; } }
        return set;
    }

    public int bestSpot(int garment) {
        Cloth c = the(garment);
        if (c.state != 0) { return -1; }
        int best = -1, least = 100000;
        for (int spot = 0; spot <= 24 - c.width; spot++) {
            if (!room(c, spot)) { continue; }
            World copy = w.copy();
            Cloth hung = copy.clothes.get(garment);
            hung.state = 1; hung.spot = spot;
            for (int m = 0; m < 60; m++) { copy.pass(false); }
            if (hung.water < least) { least = hung.water; best = spot; }
        }
        return best;
    }

    public int addGarment(int width, int weight, int capacity, int water) {
        in(width, 1, 6); in(weight, 1, 99); in(capacity, 1, 999); in(water, 0, capacity);
        may(w.clothes.size() < 10);
        change();
        Cloth c = new Cloth();
        c.width = width; c.dry = weight; c.capacity = capacity; c.water = water;
        w.clothes.add(c);
        w.came += water;
        return w.clothes.size() - 1;
    }

    public int hang(int garment, int spot, int wooden, int steel) {
        may(hangObstacle(garment, spot, wooden, steel) == 0);
        change();
        Cloth c = the(garment);
        c.state = 1; c.spot = spot; c.wooden = wooden; c.steel = steel;
        w.bagWooden -= wooden; w.bagSteel -= steel;
        return 20 * wooden + 45 * steel;
    }

    public int takeDown(int garment) {
        may(the(garment).state == 1);
        change();
        w.unpeg(the(garment));
        the(garment).state = 0;
        return the(garment).water;
    }

    public int pickUp(int garment) {
        may(the(garment).state == 2);
        change();
        the(garment).state = 0;
        return (int) w.clothes.stream().filter(c -> c.state == 2).count();
    }

    public int wash(int garment) {
        may(the(garment).state == 0);
        change();
        Cloth c = the(garment);
        int added = c.capacity - c.water;
        c.water += added; w.came += added; c.smell = 0; c.dirty = false;
        return added;
    }

    public int shift(int garment, int spot) {
        Cloth c = the(garment);
        in(spot, 0, 23);
        may(c.state == 1); may(spot + c.width <= 24); may(room(c, spot));
        change();
        int was = c.spot;
        c.spot = spot;
        return was;
    }

    public int addShower(int start, int length, int strength) {
        in(start, 0, 9999); in(length, 1, 200); in(strength, 1, 20);
        may(w.showers.size() < 4);
        change();
        w.showers.add(new int[] {start, length, strength});
        return w.showers.size();
    }

    public int addSmoke(int first, int last) {
        in(first, 0, 9999); in(last, 0, 9999); in(last, first, 9999);
        may(w.smokes.size() < 4);
        change();
        w.smokes.add(new int[] {first, last});
        return w.smokes.size();
    }

    public int setWind(int index, int wind) {
        if (index < 0 || index >= w.winds.size()) { throw new IndexOutOfBoundsException(); }
        in(wind, 0, 5);
        change();
        return w.winds.set(index, wind);
    }

    public int passMinutes(int minutes) {
        in(minutes, 1, 200);
        change();
        int fell = 0;
        for (int m = 0; m < minutes; m++) { fell += w.pass(true); }
        return fell;
    }

    public int undo() {
        may(!past.isEmpty());
        w = past.removeLast();
        return past.size();
    }

    public int save(int slot) { in(slot, 0, 1); slots[slot] = w.copy(); return w.minute; }

    public int restore(int slot) {
        in(slot, 0, 1);
        if (slots[slot] == null) { throw new NoSuchElementException(); }
        w = slots[slot].copy();
        past.clear();
        return w.minute;
    }

    public int writeLine() {
        StringBuilder text = new StringBuilder();
        for (int s = 0; s < 24; s++) {
            text.append(w.occupant(s) >= 0 ? "" + w.occupant(s) : w.sunny(s, w.minute) ? "*" : "-");
        }
        output = text.toString();
        return output.length();
    }

    public int outputByte(int index) { return index < 0 || index >= output.length() ? -1 : output.charAt(index); }
}
