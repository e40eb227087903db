import java.util.NoSuchElementException;

/**
 * A clothes line: garments hang on spots with pegs, dry in sun and wind, get smelly in the smoke of a bakery and
 * wet in showers, and fall when their pegs are too weak.
 */
public final class ClothesLine {
    public static final int NONE = -1;
    public static final int BASKET = 0;
    public static final int LINE = 1;
    public static final int GROUND = 2;

    private static final String FIRST_SETUP = "line 8 3 6; wind 1 0 3; garment 3 12 200 180; garment 1 4 60 60; garment 5 40 600 500; garment 2 9 90 0; shower 100 20 2; smoke 30 70; hang 0 2 2 0; hang 1 8 1 0; hang 2 12 1 2; minutes 25;";

    private static final int SPOTS = 24;
    private static final int ALL_SPOTS = 0xFFFFFF;
    private static final int MOST_GARMENTS = 10;
    private static final int MOST_WINDS = 8;
    private static final int MOST_SHOWERS = 4;
    private static final int MOST_SMOKES = 4;
    private static final int MOST_COMMANDS = 40;
    private static final int MOST_UNDOS = 8;
    private static final int SLOTS = 2;
    private static final int INPUT_LENGTH = 700;

    private static final int WIDEST = 6;
    private static final int HEAVIEST = 99;
    private static final int LARGEST_CAPACITY = 999;
    private static final int STRONGEST_SMELL = 99;
    private static final int MOST_PEGS = 4;
    private static final int MOST_PEGS_IN_ALL = 30;
    private static final int WOODEN_HOLD = 20;
    private static final int STEEL_HOLD = 45;
    private static final int STRONGEST_WIND = 5;
    private static final int LATEST_START = 9999;
    private static final int LONGEST_SHOWER = 200;
    private static final int STRONGEST_SHOWER = 20;
    private static final int LONGEST_PASS = 200;
    private static final int LATEST_FORECAST = 99999;
    private static final int LONGEST_PREDICTION = 500;
    private static final int NEAR_FUTURE = 60;

    private final TextReader texts = new TextReader();
    private final Line present = new Line();
    private final Line trial = new Line();
    private final History history = new History();
    private final Line[] saved = new Line[SLOTS];
    private final boolean[] isSaved = new boolean[SLOTS];
    private final int[] output = new int[SPOTS];
    private int outputLength;

    public ClothesLine() {
        for (int slot = 0; slot < SLOTS; slot++) {
            saved[slot] = new Line();
        }
        texts.appendText(FIRST_SETUP);
        if (texts.readHead(present)) {
            texts.readCommands(present);
        }
        texts.clear();
    }

    // ---- texts

    public int feed(int a, int b, int c, int d, int e) {
        return texts.append(a, b, c, d, e);
    }

    public int loadSetup() {
        boolean read = texts.readHead(trial) && texts.readCommands(trial) != NONE;
        texts.clear();
        if (!read) {
            return NONE;
        }
        present.copyFrom(trial);
        history.clear();
        for (int slot = 0; slot < SLOTS; slot++) {
            isSaved[slot] = false;
        }
        return present.garmentCount;
    }

    public int runScript() {
        trial.copyFrom(present);
        texts.begin();
        int commands = texts.readCommands(trial);
        texts.clear();
        if (commands == NONE) {
            return NONE;
        }
        history.record(present);
        present.copyFrom(trial);
        return commands;
    }

    public int errorCode() {
        return texts.errorCode;
    }

    public int errorPosition() {
        return texts.errorPosition;
    }

    // ---- time and weather

    public int minute() {
        return present.minute;
    }

    public int shadowWidth() {
        return present.weather.shadow;
    }

    public int undoCount() {
        return history.count;
    }

    public int windIn(int minute) throws IllegalArgumentException {
        requireRange(minute, 0, LATEST_FORECAST);
        return present.weather.windAt(minute);
    }

    public int rainIn(int minute) throws IllegalArgumentException {
        requireRange(minute, 0, LATEST_FORECAST);
        return present.weather.rainAt(minute);
    }

    public int sunnySpots(int minute) throws IllegalArgumentException {
        requireRange(minute, 0, LATEST_FORECAST);
        return present.weather.sunnyAt(minute);
    }

    public int smokySpots(int minute) throws IllegalArgumentException {
        requireRange(minute, 0, LATEST_FORECAST);
        return present.weather.smokyAt(minute);
    }

    public int minutesToRain() {
        return present.weather.waitForRain(present.minute);
    }

    // ---- pegs and spots

    public int woodenLeft() {
        return present.woodenInBag();
    }

    public int steelLeft() {
        return present.steelInBag();
    }

    public int freeSpots() {
        return ALL_SPOTS & ~present.occupied();
    }

    public int longestGap() {
        int occupied = present.occupied();
        int longest = 0;
        int gap = 0;
        for (int spot = 0; spot < SPOTS; spot++) {
            gap = ((occupied >> spot) & 1) == 0 ? gap + 1 : 0;
            longest = Math.max(longest, gap);
        }
        return longest;
    }

    public int garmentAt(int spot) throws IllegalArgumentException {
        requireRange(spot, 0, SPOTS - 1);
        return present.occupant(spot);
    }

    public int garmentByPlace(int place) {
        int placesBefore = 0;
        int before = NONE;
        for (int spot = 0; spot < SPOTS; spot++) {
            int garment = present.occupant(spot);
            if (garment != NONE && garment != before) {
                if (placesBefore == place) {
                    return garment;
                }
                placesBefore++;
                before = garment;
            }
        }
        return NONE;
    }

    // ---- garments

    public int garmentCount() {
        return present.garmentCount;
    }

    public int stateOf(int garment) throws IndexOutOfBoundsException {
        return known(garment).state;
    }

    public int widthOf(int garment) throws IndexOutOfBoundsException {
        return known(garment).width;
    }

    public int dryWeight(int garment) throws IndexOutOfBoundsException {
        return known(garment).weightWhenDry;
    }

    public int capacityOf(int garment) throws IndexOutOfBoundsException {
        return known(garment).capacity;
    }

    public int waterOf(int garment) throws IndexOutOfBoundsException {
        return known(garment).water;
    }

    public int weightOf(int garment) throws IndexOutOfBoundsException {
        return known(garment).weight();
    }

    public int smellOf(int garment) throws IndexOutOfBoundsException {
        return known(garment).smell;
    }

    public int spotOf(int garment) throws IndexOutOfBoundsException {
        return known(garment).spot;
    }

    public int woodenOf(int garment) throws IndexOutOfBoundsException {
        return known(garment).wooden;
    }

    public int steelOf(int garment) throws IndexOutOfBoundsException {
        return known(garment).steel;
    }

    public int holdOf(int garment) throws IndexOutOfBoundsException {
        return known(garment).hold();
    }

    public int fallsOf(int garment) throws IndexOutOfBoundsException {
        return known(garment).falls;
    }

    public boolean isDirty(int garment) throws IndexOutOfBoundsException {
        return known(garment).dirty;
    }

    public int garmentsIn(int state) throws IllegalArgumentException {
        requireRange(state, BASKET, GROUND);
        return present.setInState(state);
    }

    public int dryGarments() {
        int dry = 0;
        for (int i = 0; i < present.garmentCount; i++) {
            if (present.garments[i].water == 0) {
                dry |= 1 << i;
            }
        }
        return dry;
    }

    public int hangObstacle(int garment, int spot, int wooden, int steel)
            throws IndexOutOfBoundsException, IllegalArgumentException {
        Garment hung = known(garment);
        requireRange(spot, 0, SPOTS - 1);
        requireRange(wooden, 0, MOST_PEGS);
        requireRange(steel, 0, MOST_PEGS);
        return present.obstacle(hung, spot, wooden, steel);
    }

    public int fewestPegs(int garment) throws IndexOutOfBoundsException {
        int weight = known(garment).weight();
        int woodenInBag = present.woodenInBag();
        int steelInBag = present.steelInBag();
        for (int pegs = 1; pegs <= MOST_PEGS; pegs++) {
            // Steel holds more, so a number of pegs is enough only if it is with all the steel that can be in it.
            int steel = Math.min(pegs, steelInBag);
            int wooden = pegs - steel;
            if (wooden <= woodenInBag && holdOfPegs(wooden, steel) >= weight) {
                return pegs;
            }
        }
        return NONE;
    }

    // ---- accounts

    public int waterInAll() {
        int sum = 0;
        for (int i = 0; i < present.garmentCount; i++) {
            sum += present.garments[i].water;
        }
        return sum;
    }

    public int waterCame() {
        int sum = 0;
        for (int i = 0; i < present.garmentCount; i++) {
            sum += present.garments[i].waterCome;
        }
        return sum;
    }

    public int driedBySun() {
        int sum = 0;
        for (int i = 0; i < present.garmentCount; i++) {
            sum += present.garments[i].sunDried;
        }
        return sum;
    }

    public int driedByWind() {
        int sum = 0;
        for (int i = 0; i < present.garmentCount; i++) {
            sum += present.garments[i].windDried;
        }
        return sum;
    }

    public int consistencyError() {
        int waterDue = waterCame() - driedBySun() - driedByWind();
        return Math.abs(waterDue - waterInAll()) + present.spotsOccupiedTwice();
    }

    public double meanWater() {
        if (present.garmentCount == 0) {
            return 0.0;
        }
        return (double) waterInAll() / (double) present.garmentCount;
    }

    public float dryShare() {
        if (present.garmentCount == 0) {
            return 0.0f;
        }
        return (float) Integer.bitCount(dryGarments()) / (float) present.garmentCount;
    }

    // ---- predictions; nothing changes

    public int waterAfter(int garment, int minutes) throws IndexOutOfBoundsException, IllegalArgumentException {
        Garment now = known(garment);
        requireRange(minutes, 0, LONGEST_PREDICTION);
        Garment copy = trial.copyWithOne(present, now);
        trial.letPass(minutes);
        return copy.water;
    }

    public int minutesToDry(int garment) throws IndexOutOfBoundsException {
        Garment copy = trial.copyWithOne(present, known(garment));
        for (int passed = 0; passed <= LONGEST_PREDICTION; passed++) {
            if (copy.water == 0) {
                return passed;
            }
            trial.passOne();
        }
        return NONE;
    }

    public int minutesToFall(int garment) throws IndexOutOfBoundsException {
        trial.copyWithOne(present, known(garment));
        for (int passed = 1; passed <= LONGEST_PREDICTION; passed++) {
            if (trial.passOne() > 0) {
                return passed;
            }
        }
        return NONE;
    }

    public int garmentsAtRisk() {
        trial.copyFrom(present);
        trial.letPass(NEAR_FUTURE);
        return present.setInState(LINE) & trial.setInState(GROUND);
    }

    public int bestSpot(int garment) throws IndexOutOfBoundsException {
        Garment wanted = known(garment);
        if (wanted.state != BASKET) {
            return NONE;
        }
        int occupied = present.occupied();
        int best = NONE;
        int leastWater = 0;
        for (int spot = 0; spot + wanted.width <= SPOTS; spot++) {
            if ((spotSet(spot, wanted.width) & occupied) == 0) {
                int water = waterSoonAt(wanted, spot);
                if (best == NONE || water < leastWater) {
                    best = spot;
                    leastWater = water;
                }
            }
        }
        return best;
    }

    // ---- changes

    public int addGarment(int width, int weight, int capacity, int water)
            throws IllegalArgumentException, IllegalStateException {
        requireRange(width, 1, WIDEST);
        requireRange(weight, 1, HEAVIEST);
        requireRange(capacity, 1, LARGEST_CAPACITY);
        requireRange(water, 0, capacity);
        requireState(present.garmentCount < MOST_GARMENTS);
        history.record(present);
        present.append(width, weight, capacity, water);
        return present.garmentCount - 1;
    }

    public int hang(int garment, int spot, int wooden, int steel)
            throws IndexOutOfBoundsException, IllegalArgumentException, IllegalStateException {
        requireState(hangObstacle(garment, spot, wooden, steel) == 0);
        history.record(present);
        Garment hung = known(garment);
        hung.hangUp(spot, wooden, steel);
        return hung.hold();
    }

    public int takeDown(int garment) throws IndexOutOfBoundsException, IllegalStateException {
        Garment taken = known(garment);
        requireState(taken.state == LINE);
        history.record(present);
        taken.putInto(BASKET);
        return taken.water;
    }

    public int pickUp(int garment) throws IndexOutOfBoundsException, IllegalStateException {
        Garment picked = known(garment);
        requireState(picked.state == GROUND);
        history.record(present);
        picked.putInto(BASKET);
        return Integer.bitCount(present.setInState(GROUND));
    }

    public int wash(int garment) throws IndexOutOfBoundsException, IllegalStateException {
        Garment washed = known(garment);
        requireState(washed.state == BASKET);
        history.record(present);
        int waterBefore = washed.water;
        washed.soak();
        return washed.water - waterBefore;
    }

    public int shift(int garment, int spot)
            throws IndexOutOfBoundsException, IllegalArgumentException, IllegalStateException {
        Garment shifted = known(garment);
        requireRange(spot, 0, SPOTS - 1);
        requireState(present.canShift(shifted, spot));
        history.record(present);
        int previous = shifted.spot;
        shifted.moveTo(spot);
        return previous;
    }

    public int addShower(int start, int length, int strength)
            throws IllegalArgumentException, IllegalStateException {
        requireRange(start, 0, LATEST_START);
        requireRange(length, 1, LONGEST_SHOWER);
        requireRange(strength, 1, STRONGEST_SHOWER);
        requireState(present.weather.showerCount < MOST_SHOWERS);
        history.record(present);
        present.weather.appendShower(start, length, strength);
        return present.weather.showerCount;
    }

    public int addSmoke(int first, int last) throws IllegalArgumentException, IllegalStateException {
        requireRange(first, 0, LATEST_START);
        requireRange(last, first, LATEST_START);
        requireState(present.weather.smokeCount < MOST_SMOKES);
        history.record(present);
        present.weather.appendSmoke(first, last);
        return present.weather.smokeCount;
    }

    public int setWind(int index, int wind) throws IndexOutOfBoundsException, IllegalArgumentException {
        if (index < 0 || index >= present.weather.windCount) {
            throw new IndexOutOfBoundsException("no such wind");
        }
        requireRange(wind, 0, STRONGEST_WIND);
        history.record(present);
        int previous = present.weather.winds[index];
        present.weather.winds[index] = wind;
        return previous;
    }

    public int passMinutes(int minutes) throws IllegalArgumentException {
        requireRange(minutes, 1, LONGEST_PASS);
        history.record(present);
        return present.letPass(minutes);
    }

    // ---- undo, saved states, output

    public int undo() throws IllegalStateException {
        requireState(history.count > 0);
        history.takeBack(present);
        return history.count;
    }

    public int save(int slot) throws IllegalArgumentException {
        requireRange(slot, 0, SLOTS - 1);
        saved[slot].copyFrom(present);
        isSaved[slot] = true;
        return present.minute;
    }

    public int restore(int slot) throws IllegalArgumentException, NoSuchElementException {
        requireRange(slot, 0, SLOTS - 1);
        if (!isSaved[slot]) {
            throw new NoSuchElementException("no state is saved there");
        }
        present.copyFrom(saved[slot]);
        history.clear();
        return present.minute;
    }

    public int writeLine() {
        int sunny = present.weather.sunnyAt(present.minute);
        for (int spot = 0; spot < SPOTS; spot++) {
            int garment = present.occupant(spot);
            if (garment != NONE) {
                output[spot] = '0' + garment;
            } else {
                output[spot] = ((sunny >> spot) & 1) == 1 ? '*' : '-';
            }
        }
        outputLength = SPOTS;
        return outputLength;
    }

    public int outputByte(int index) {
        return index < 0 || index >= outputLength ? NONE : output[index];
    }

    // ---- helpers

    private static void requireRange(int value, int smallest, int largest) {
        if (value < smallest || value > largest) {
            throw new IllegalArgumentException("out of range");
        }
    }

    private static void requireState(boolean allowed) {
        if (!allowed) {
            throw new IllegalStateException("not possible in this state");
        }
    }

    private Garment known(int garment) {
        if (garment < 0 || garment >= present.garmentCount) {
            throw new IndexOutOfBoundsException("no such garment");
        }
        return present.garments[garment];
    }

    private int waterSoonAt(Garment garment, int spot) {
        Garment copy = trial.copyWithOne(present, garment);
        // The heaviest garment weighs 198, and five steel pegs hold 225: with them it cannot fall.
        copy.hangUp(spot, 0, 5);
        trial.letPass(NEAR_FUTURE);
        return copy.water;
    }

    private static int spotSet(int spot, int width) {
        return ((1 << width) - 1) << spot;
    }

    private static int holdOfPegs(int wooden, int steel) {
        return wooden * WOODEN_HOLD + steel * STEEL_HOLD;
    }

    /** A garment, with its own part of the accounts: so no account is to be kept when a copy is tried out. */
    private static final class Garment {
        private int width;
        private int weightWhenDry;
        private int capacity;
        private int water;
        private int smell;
        private boolean dirty;
        private int state;
        private int spot = NONE;
        private int spots;
        private int wooden;
        private int steel;
        private int falls;
        private int waterCome;
        private int sunDried;
        private int windDried;

        void makeNew(int newWidth, int newWeight, int newCapacity, int newWater) {
            width = newWidth;
            weightWhenDry = newWeight;
            capacity = newCapacity;
            water = newWater;
            smell = 0;
            dirty = false;
            falls = 0;
            waterCome = newWater;
            sunDried = 0;
            windDried = 0;
            putInto(BASKET);
        }

        void copyFrom(Garment other) {
            width = other.width;
            weightWhenDry = other.weightWhenDry;
            capacity = other.capacity;
            water = other.water;
            smell = other.smell;
            dirty = other.dirty;
            state = other.state;
            spot = other.spot;
            spots = other.spots;
            wooden = other.wooden;
            steel = other.steel;
            falls = other.falls;
            waterCome = other.waterCome;
            sunDried = other.sunDried;
            windDried = other.windDried;
        }

        int weight() {
            return weightWhenDry + water / 10;
        }

        int hold() {
            return holdOfPegs(wooden, steel);
        }

        void hangUp(int newSpot, int newWooden, int newSteel) {
            state = LINE;
            wooden = newWooden;
            steel = newSteel;
            moveTo(newSpot);
        }

        void moveTo(int newSpot) {
            spot = newSpot;
            spots = spotSet(newSpot, width);
        }

        /** Leaves the line, if it was there, for the basket or the ground. */
        void putInto(int newState) {
            state = newState;
            spot = NONE;
            spots = 0;
            wooden = 0;
            steel = 0;
        }

        void soak() {
            waterCome += capacity - water;
            water = capacity;
            smell = 0;
            dirty = false;
        }

        void getWet(int rain) {
            int added = Math.min(rain * width, capacity - water);
            water += added;
            waterCome += added;
        }

        void getDry(int sunny, int wind) {
            int bySun = Math.min(Integer.bitCount(sunny & spots), water);
            water -= bySun;
            sunDried += bySun;
            int byWind = Math.min(wind, water);
            water -= byWind;
            windDried += byWind;
        }

        void takeSmell(int smoky, int wind) {
            if ((smoky & spots) != 0) {
                smell = Math.min(smell + 1, STRONGEST_SMELL);
            } else if (wind != 0) {
                smell = Math.max(smell - 1, 0);
            }
        }

        void fall() {
            putInto(GROUND);
            dirty = true;
            falls++;
        }
    }

    /** The shadow, the winds, the showers and the smoke times: what they are in any minute. */
    private static final class Weather {
        private int shadow;
        private final int[] winds = new int[MOST_WINDS];
        private int windCount;
        private final int[] showerStarts = new int[MOST_SHOWERS];
        private final int[] showerEnds = new int[MOST_SHOWERS];
        private final int[] showerStrengths = new int[MOST_SHOWERS];
        private int showerCount;
        private final int[] smokeFirsts = new int[MOST_SMOKES];
        private final int[] smokeLasts = new int[MOST_SMOKES];
        private int smokeCount;

        void clear(int newShadow) {
            shadow = newShadow;
            windCount = 0;
            showerCount = 0;
            smokeCount = 0;
        }

        void copyFrom(Weather other) {
            shadow = other.shadow;
            windCount = other.windCount;
            showerCount = other.showerCount;
            smokeCount = other.smokeCount;
            System.arraycopy(other.winds, 0, winds, 0, MOST_WINDS);
            System.arraycopy(other.showerStarts, 0, showerStarts, 0, MOST_SHOWERS);
            System.arraycopy(other.showerEnds, 0, showerEnds, 0, MOST_SHOWERS);
            System.arraycopy(other.showerStrengths, 0, showerStrengths, 0, MOST_SHOWERS);
            System.arraycopy(other.smokeFirsts, 0, smokeFirsts, 0, MOST_SMOKES);
            System.arraycopy(other.smokeLasts, 0, smokeLasts, 0, MOST_SMOKES);
        }

        void appendWind(int wind) {
            if (windCount < MOST_WINDS) {
                winds[windCount] = wind;
                windCount++;
            }
        }

        void appendShower(int start, int length, int strength) {
            if (showerCount < MOST_SHOWERS) {
                showerStarts[showerCount] = start;
                showerEnds[showerCount] = start + length;
                showerStrengths[showerCount] = strength;
                showerCount++;
            }
        }

        void appendSmoke(int first, int last) {
            if (smokeCount < MOST_SMOKES) {
                smokeFirsts[smokeCount] = first;
                smokeLasts[smokeCount] = last;
                smokeCount++;
            }
        }

        int windAt(int minute) {
            return windCount == 0 ? 0 : winds[minute / 60 % windCount];
        }

        int rainAt(int minute) {
            int rain = 0;
            for (int i = 0; i < showerCount; i++) {
                if (minute >= showerStarts[i] && minute < showerEnds[i]) {
                    rain += showerStrengths[i];
                }
            }
            return rain;
        }

        int sunnyAt(int minute) {
            if (rainAt(minute) != 0) {
                return 0;
            }
            int begin = minute / 30 % SPOTS;
            int covered = (1 << shadow) - 1;
            // What reaches beyond the last spot comes in again at the first one.
            return ALL_SPOTS & ~((covered << begin) | (covered >> (SPOTS - begin)));
        }

        int smokyAt(int minute) {
            for (int i = 0; i < smokeCount; i++) {
                if (minute >= smokeFirsts[i] && minute <= smokeLasts[i]) {
                    return (1 << (4 * windAt(minute))) - 1;
                }
            }
            return 0;
        }

        int waitForRain(int minute) {
            int shortest = NONE;
            for (int i = 0; i < showerCount; i++) {
                int wait = Math.max(showerStarts[i] - minute, 0);
                if (minute < showerEnds[i] && (shortest == NONE || wait < shortest)) {
                    shortest = wait;
                }
            }
            return shortest;
        }
    }

    /** All that undo() and restore() bring back. */
    private static final class Line {
        private int woodenPegs;
        private int steelPegs;
        private int minute;
        private int garmentCount;
        private final Weather weather = new Weather();
        private final Garment[] garments = new Garment[MOST_GARMENTS];

        Line() {
            for (int i = 0; i < MOST_GARMENTS; i++) {
                garments[i] = new Garment();
            }
        }

        void clear(int wooden, int steel, int shadow) {
            woodenPegs = wooden;
            steelPegs = steel;
            minute = 0;
            garmentCount = 0;
            weather.clear(shadow);
        }

        void copyFrom(Line other) {
            woodenPegs = other.woodenPegs;
            steelPegs = other.steelPegs;
            minute = other.minute;
            garmentCount = other.garmentCount;
            weather.copyFrom(other.weather);
            for (int i = 0; i < garmentCount; i++) {
                garments[i].copyFrom(other.garments[i]);
            }
        }

        /** Becomes the other line with one garment alone, whose copy it returns: no garment affects another one. */
        Garment copyWithOne(Line other, Garment garment) {
            minute = other.minute;
            garmentCount = 1;
            weather.copyFrom(other.weather);
            garments[0].copyFrom(garment);
            return garments[0];
        }

        void append(int width, int weight, int capacity, int water) {
            if (garmentCount < MOST_GARMENTS) {
                garments[garmentCount].makeNew(width, weight, capacity, water);
                garmentCount++;
            }
        }

        int woodenInBag() {
            int left = woodenPegs;
            for (int i = 0; i < garmentCount; i++) {
                left -= garments[i].wooden;
            }
            return left;
        }

        int steelInBag() {
            int left = steelPegs;
            for (int i = 0; i < garmentCount; i++) {
                left -= garments[i].steel;
            }
            return left;
        }

        int occupied() {
            int occupied = 0;
            for (int i = 0; i < garmentCount; i++) {
                occupied |= garments[i].spots;
            }
            return occupied;
        }

        int spotsOccupiedTwice() {
            int once = 0;
            int twice = 0;
            for (int i = 0; i < garmentCount; i++) {
                twice |= once & garments[i].spots;
                once |= garments[i].spots;
            }
            return Integer.bitCount(twice);
        }

        int occupant(int spot) {
            for (int i = 0; i < garmentCount; i++) {
                if (((garments[i].spots >> spot) & 1) == 1) {
                    return i;
                }
            }
            return NONE;
        }

        int setInState(int state) {
            int set = 0;
            for (int i = 0; i < garmentCount; i++) {
                if (garments[i].state == state) {
                    set |= 1 << i;
                }
            }
            return set;
        }

        int obstacle(Garment garment, int spot, int wooden, int steel) {
            if (garment.state != BASKET) {
                return 1;
            }
            if (spot + garment.width > SPOTS) {
                return 2;
            }
            if ((spotSet(spot, garment.width) & occupied()) != 0) {
                return 3;
            }
            if (wooden + steel == 0 || wooden + steel > MOST_PEGS) {
                return 4;
            }
            if (wooden > woodenInBag() || steel > steelInBag()) {
                return 5;
            }
            return garment.weight() > holdOfPegs(wooden, steel) ? 6 : 0;
        }

        boolean canShift(Garment garment, int spot) {
            if (garment.state != LINE || spot + garment.width > SPOTS) {
                return false;
            }
            int occupiedByOthers = occupied() & ~garment.spots;
            return (spotSet(spot, garment.width) & occupiedByOthers) == 0;
        }

        /** Lets minutes pass and returns how many garments fell. */
        int letPass(int minutes) {
            int fallen = 0;
            for (int passed = 0; passed < minutes; passed++) {
                fallen += passOne();
            }
            return fallen;
        }

        int passOne() {
            int rain = weather.rainAt(minute);
            int wind = weather.windAt(minute);
            int sunny = weather.sunnyAt(minute);
            int smoky = weather.smokyAt(minute);
            int fallen = 0;
            // By index, not by spot: no garment affects another one, so the order cannot be seen.
            for (int i = 0; i < garmentCount; i++) {
                Garment garment = garments[i];
                if (garment.state == LINE) {
                    if (rain > 0) {
                        garment.getWet(rain);
                    } else {
                        garment.getDry(sunny, wind);
                    }
                    garment.takeSmell(smoky, wind);
                    if (garment.weight() > garment.hold()) {
                        garment.fall();
                        fallen++;
                    }
                }
            }
            minute++;
            return fallen;
        }
    }

    /** The lines before the latest changes, in a ring: the oldest one gives way. */
    private static final class History {
        private final Line[] lines = new Line[MOST_UNDOS];
        private int next;
        private int count;

        History() {
            for (int i = 0; i < MOST_UNDOS; i++) {
                lines[i] = new Line();
            }
        }

        void clear() {
            count = 0;
        }

        void record(Line line) {
            lines[next].copyFrom(line);
            next = (next + 1) % MOST_UNDOS;
            count = Math.min(count + 1, MOST_UNDOS);
        }

        void takeBack(Line line) {
            next = (next + MOST_UNDOS - 1) % MOST_UNDOS;
            count--;
            line.copyFrom(lines[next]);
        }
    }

    /** The input buffer; reads setups and scripts from it token by token, up to the first error. */
    private static final class TextReader {
        private static final int SYNTAX = 1;
        private static final int RANGE = 2;
        private static final int STATE = 3;
        private static final int LIMIT = 4;

        private static final int END = 0;
        private static final int WORD = 1;
        private static final int NUMBER = 2;
        private static final int SEMICOLON = 3;
        private static final int STRANGE = 4;

        private static final int UNKNOWN = 0;
        private static final int ADD_GARMENT = 1;
        private static final int HANG_UP = 2;
        private static final int TAKE = 3;
        private static final int PICK = 4;
        private static final int SOAK = 5;
        private static final int MOVE = 6;
        private static final int SHOWER = 7;
        private static final int SMOKE = 8;
        private static final int CHANGE_WIND = 9;
        private static final int PASS = 10;

        /** More than the largest number that any place of the grammar allows. */
        private static final int TOO_LARGE = 100000;

        private final int[] bytes = new int[INPUT_LENGTH];
        private int length;
        private int next;
        private int kind;
        private int start;
        private int value;
        private int command;
        private final int[] arguments = new int[4];
        private int errorCode;
        private int errorPosition = NONE;

        int append(int a, int b, int c, int d, int e) {
            int added = bytesIn(a) + bytesIn(b) + bytesIn(c) + bytesIn(d) + bytesIn(e);
            if (length + added > INPUT_LENGTH) {
                return NONE;
            }
            appendBytes(a);
            appendBytes(b);
            appendBytes(c);
            appendBytes(d);
            appendBytes(e);
            return length;
        }

        void appendText(String text) {
            for (int i = 0; i < text.length(); i++) {
                appendByte(text.charAt(i));
            }
        }

        void clear() {
            length = 0;
        }

        void begin() {
            next = 0;
            errorCode = 0;
            errorPosition = NONE;
        }

        /** Reads the first two commands of a setup, which make the line anew. */
        boolean readHead(Line line) {
            begin();
            if (!readWord("line") || !readNumber(0, 0, MOST_PEGS_IN_ALL) || !readNumber(1, 0, MOST_PEGS_IN_ALL)
                    || !readNumber(2, 0, SPOTS) || !readSemicolon()) {
                return false;
            }
            line.clear(arguments[0], arguments[1], arguments[2]);
            return readWord("wind") && readPattern(line.weather);
        }

        /** Reads commands up to the end of the text and executes them; returns their number, NONE after an error. */
        int readCommands(Line line) {
            for (int commands = 0; commands <= MOST_COMMANDS; commands++) {
                advance();
                if (kind == END) {
                    return commands;
                }
                if (!isCommand(line, commands) || !readArguments(line) || !readSemicolon()) {
                    return NONE;
                }
                if (!execute(line)) {
                    fail(STATE);
                    return NONE;
                }
            }
            return NONE;
        }

        private static int bytesIn(int word) {
            int count = 0;
            for (int shift = 24; shift >= 0; shift -= 8) {
                if (((word >> shift) & 0xFF) != 0) {
                    count++;
                }
            }
            return count;
        }

        private void appendBytes(int word) {
            for (int shift = 24; shift >= 0; shift -= 8) {
                appendByte((word >> shift) & 0xFF);
            }
        }

        private void appendByte(int sign) {
            if (sign != 0 && length < INPUT_LENGTH) {
                bytes[length] = sign;
                length++;
            }
        }

        /** Always false, so that a reader that fails can return it. */
        private boolean fail(int code) {
            errorCode = code;
            errorPosition = start;
            return false;
        }

        private void advance() {
            while (next < length && (bytes[next] == ' ' || bytes[next] == '\n')) {
                next++;
            }
            start = next;
            if (next >= length) {
                kind = END;
            } else if (isLetter(bytes[next])) {
                kind = WORD;
                passLetters();
            } else if (isDigit(bytes[next])) {
                kind = NUMBER;
                passDigits();
            } else {
                kind = bytes[next] == ';' ? SEMICOLON : STRANGE;
                next++;
            }
        }

        private void passLetters() {
            while (next < length && isLetter(bytes[next])) {
                next++;
            }
        }

        private void passDigits() {
            value = 0;
            while (next < length && isDigit(bytes[next])) {
                value = Math.min(value * 10 + (bytes[next] - '0'), TOO_LARGE);
                next++;
            }
        }

        private static boolean isLetter(int sign) {
            return sign >= 'a' && sign <= 'z';
        }

        private static boolean isDigit(int sign) {
            return sign >= '0' && sign <= '9';
        }

        private boolean tokenIs(String word) {
            if (kind != WORD || next - start != word.length()) {
                return false;
            }
            for (int i = 0; i < word.length(); i++) {
                if (bytes[start + i] != word.charAt(i)) {
                    return false;
                }
            }
            return true;
        }

        private boolean readWord(String word) {
            advance();
            return tokenIs(word) || fail(SYNTAX);
        }

        private boolean readSemicolon() {
            advance();
            return kind == SEMICOLON || fail(SYNTAX);
        }

        private boolean readNumber(int argument, int smallest, int largest) {
            advance();
            if (kind != NUMBER) {
                return fail(SYNTAX);
            }
            if (value < smallest || value > largest) {
                return fail(RANGE);
            }
            arguments[argument] = value;
            return true;
        }

        private boolean readPattern(Weather weather) {
            for (int winds = 0; winds <= MOST_WINDS; winds++) {
                advance();
                if (winds > 0 && kind == SEMICOLON) {
                    return true;
                }
                if (kind != NUMBER) {
                    return fail(SYNTAX);
                }
                if (value > STRONGEST_WIND) {
                    return fail(RANGE);
                }
                if (winds == MOST_WINDS) {
                    return fail(LIMIT);
                }
                weather.appendWind(value);
            }
            return false;
        }

        private boolean isCommand(Line line, int commandsBefore) {
            command = commandOfToken();
            if (command == UNKNOWN) {
                return fail(SYNTAX);
            }
            if (commandsBefore == MOST_COMMANDS || hasNoPlace(line)) {
                return fail(LIMIT);
            }
            return true;
        }

        private int commandOfToken() {
            if (tokenIs("garment")) {
                return ADD_GARMENT;
            }
            if (tokenIs("hang")) {
                return HANG_UP;
            }
            if (tokenIs("take")) {
                return TAKE;
            }
            if (tokenIs("pick")) {
                return PICK;
            }
            if (tokenIs("wash")) {
                return SOAK;
            }
            if (tokenIs("shift")) {
                return MOVE;
            }
            if (tokenIs("shower")) {
                return SHOWER;
            }
            if (tokenIs("smoke")) {
                return SMOKE;
            }
            if (tokenIs("wind")) {
                return CHANGE_WIND;
            }
            return tokenIs("minutes") ? PASS : UNKNOWN;
        }

        private boolean hasNoPlace(Line line) {
            switch (command) {
                case ADD_GARMENT:
                    return line.garmentCount == MOST_GARMENTS;
                case SHOWER:
                    return line.weather.showerCount == MOST_SHOWERS;
                case SMOKE:
                    return line.weather.smokeCount == MOST_SMOKES;
                default:
                    return false;
            }
        }

        private boolean readArguments(Line line) {
            int lastGarment = line.garmentCount - 1;
            switch (command) {
                case ADD_GARMENT:
                    return readNumber(0, 1, WIDEST) && readNumber(1, 1, HEAVIEST)
                            && readNumber(2, 1, LARGEST_CAPACITY) && readNumber(3, 0, arguments[2]);
                case HANG_UP:
                    return readNumber(0, 0, lastGarment) && readNumber(1, 0, SPOTS - 1)
                            && readNumber(2, 0, MOST_PEGS) && readNumber(3, 0, MOST_PEGS);
                case MOVE:
                    return readNumber(0, 0, lastGarment) && readNumber(1, 0, SPOTS - 1);
                case SHOWER:
                    return readNumber(0, 0, LATEST_START) && readNumber(1, 1, LONGEST_SHOWER)
                            && readNumber(2, 1, STRONGEST_SHOWER);
                case SMOKE:
                    return readNumber(0, 0, LATEST_START) && readNumber(1, arguments[0], LATEST_START);
                case CHANGE_WIND:
                    return readNumber(0, 0, line.weather.windCount - 1) && readNumber(1, 0, STRONGEST_WIND);
                case PASS:
                    return readNumber(0, 1, LONGEST_PASS);
                default:
                    return readNumber(0, 0, lastGarment);
            }
        }

        /** Executes the command; false, and nothing done, if its method would throw an IllegalStateException. */
        private boolean execute(Line line) {
            switch (command) {
                case ADD_GARMENT:
                    line.append(arguments[0], arguments[1], arguments[2], arguments[3]);
                    return true;
                case SHOWER:
                    line.weather.appendShower(arguments[0], arguments[1], arguments[2]);
                    return true;
                case SMOKE:
                    line.weather.appendSmoke(arguments[0], arguments[1]);
                    return true;
                case CHANGE_WIND:
                    line.weather.winds[arguments[0]] = arguments[1];
                    return true;
                case PASS:
                    line.letPass(arguments[0]);
                    return true;
                default:
                    return handle(line, line.garments[arguments[0]]);
            }
        }

        private boolean handle(Line line, Garment garment) {
            switch (command) {
                case HANG_UP:
                    if (line.obstacle(garment, arguments[1], arguments[2], arguments[3]) != 0) {
                        return false;
                    }
                    garment.hangUp(arguments[1], arguments[2], arguments[3]);
                    return true;
                case MOVE:
                    if (!line.canShift(garment, arguments[1])) {
                        return false;
                    }
                    garment.moveTo(arguments[1]);
                    return true;
                case SOAK:
                    if (garment.state != BASKET) {
                        return false;
                    }
                    garment.soak();
                    return true;
                default:
                    if (garment.state != (command == TAKE ? LINE : GROUND)) {
                        return false;
                    }
                    garment.putInto(BASKET);
                    return true;
            }
        }
    }
}
