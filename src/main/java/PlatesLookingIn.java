import java.util.Arrays;

/** A dishwasher's rack, told in a text: what stands in it, what comes clean, what would. */
public final class PlatesLookingIn {
    public static final int BAD = -1, NO = -2, FULL = -3, NONE = -4;

    private static final String FIRST_TEXT =
        "n12,5;t0,1,5,3;t0,1,7,4;t1,3,4,5;t2,1,2,2;t2,1,2,6;t3,2,8,3;t0,2,6,1;p0,4,1;p1,6,0;p2,0,1;p3,7,0;p4,8,0;a7;w6;c2,4;c3,4;c7,30;";

    private static final int MOST_LETTERS = 200;
    private static final int MOST_NUMBERS = 4;
    private static final int LEAST_SLOTS = 3;
    private static final int MOST_SLOTS = 14;
    private static final int MOST_THINGS = 7;
    private static final int MOST_WIDTH = 4;
    private static final int MOST_WATER = 9;
    private static final int HOURS = 24;
    private static final int MOST_UNDONE = 8;
    private static final int MOST_KEPT = 2;
    private static final int MOST_DAY = 9999;
    private static final int MOST_TIMES = 30;

    private static final int PLATE = 0;
    private static final int BOWL = 1;
    private static final int SPOON = 2;
    private static final int LADLE = 3;

    private static final int OUT = -1;

    // Bits, so that the sides on which a ladle leaves nothing clean can be held in one number.
    private static final int NOWHERE = 0;
    private static final int LEFT = 1;
    private static final int OVER = 2;
    private static final int RIGHT = 4;

    private static final int TURNED_LEFT = 0;
    private static final int TURNED_RIGHT = 1;

    private final int[] letters = new int[MOST_LETTERS];
    private int length;
    private final Reader reader = new Reader();
    private final Dishes dishes = new Dishes();
    private final Rack rack = new Rack(dishes);
    private final Rack trial = new Rack(dishes);
    private final Orders orders = new Orders(dishes);
    private final Shelf past = new Shelf(MOST_UNDONE);
    private final Shelf kept = new Shelf(MOST_KEPT);
    private int seenThings;
    private int seenClean;

    public PlatesLookingIn() {
        int size = Math.min(FIRST_TEXT.length(), MOST_LETTERS);
        for (int i = 0; i < size; i++) {
            letters[i] = FIRST_TEXT.charAt(i);
        }
        reader.findFault(letters, size);
        layWhatWasRead();
    }

    // ---- racks

    public int write(int letter) {
        if (letter < 32 || letter > 126) {
            return BAD;
        }
        if (length >= MOST_LETTERS) {
            return FULL;
        }
        letters[length] = letter;
        length++;
        return length;
    }

    public int wipe() {
        int was = length;
        length = 0;
        return was;
    }

    public int fault() {
        return reader.findFault(letters, length);
    }

    public int lay() {
        if (reader.findFault(letters, length) != NONE || reader.dishes.things == 0) {
            return NO;
        }
        layWhatWasRead();
        return dishes.things;
    }

    private void layWhatWasRead() {
        dishes.copyFrom(reader.dishes);
        rack.copyFrom(reader.rack);
        past.size = 0;
        kept.size = 0;
        seenThings = 0;
        seenClean = 0;
        orders.found = false;
    }

    public int thing(int t, int what) {
        if (!dishes.has(t)) {
            return BAD;
        }
        switch (what) {
            case 0: return dishes.kinds[t];
            case 1: return dishes.widths[t];
            case 2: return dishes.heights[t];
            case 3: return dishes.dirts[t];
            case 4: return rack.isIn(t) ? rack.begins[t] : NONE;
            case 5: return rack.isIn(t) ? rack.turned[t] : NONE;
            case 6: return rack.isWashed(t) ? 1 : 0;
            default: return BAD;
        }
    }

    public int slot(int s) {
        if (!dishes.hasSlot(s)) {
            return BAD;
        }
        return rack.ownerOf(s);
    }

    // ---- acts

    public int putIn(int t, int s, int f) {
        if (!dishes.has(t) || !dishes.hasSlot(s) || !isBit(f)) {
            return BAD;
        }
        if (rack.isIn(t) || rack.isWashed(t) || !rack.fits(t, s)) {
            return NO;
        }
        past.push(rack);
        rack.stand(t, s, f);
        return rack.countIn();
    }

    public int turn(int t) {
        if (!dishes.has(t)) {
            return BAD;
        }
        if (!rack.isIn(t)) {
            return NO;
        }
        past.push(rack);
        rack.turned[t] = 1 - rack.turned[t];
        return rack.turned[t];
    }

    public int takeOut(int t) {
        if (!dishes.has(t)) {
            return BAD;
        }
        if (!rack.isIn(t)) {
            return NO;
        }
        past.push(rack);
        rack.leave(t);
        return rack.countIn();
    }

    public int wash(int t) {
        if (!dishes.has(t)) {
            return BAD;
        }
        if (rack.isWashed(t)) {
            return NO;
        }
        past.push(rack);
        rack.leave(t);
        rack.washed |= 1 << t;
        return Integer.bitCount(rack.washed);
    }

    public int water(int p) {
        if (p < 1 || p > MOST_WATER) {
            return BAD;
        }
        int was = rack.strength;
        past.push(rack);
        rack.strength = p;
        return was;
    }

    public int undo() {
        if (past.size == 0) {
            return NO;
        }
        past.pop(rack);
        return past.size;
    }

    // ---- what comes clean

    public int stands(int t, int what) {
        if (!dishes.has(t) || what < 0 || what > 3) {
            return BAD;
        }
        if (!rack.isIn(t)) {
            return NO;
        }
        switch (what) {
            case 0: return rack.shadowOf(t);
            case 1: return rack.looksIn(t) ? 1 : 0;
            case 2: return dishes.strikes(t) ? 1 : 0;
            default: return (rack.cleanBits(rack.strength) >> t) & 1;
        }
    }

    public int clean() {
        return rack.cleanBits(rack.strength);
    }

    public int pooled() {
        int bits = 0;
        for (int t = 0; t < dishes.things; t++) {
            if (rack.isIn(t) && dishes.kinds[t] == BOWL && !rack.looksIn(t)) {
                bits |= 1 << t;
            }
        }
        return bits;
    }

    public int room(int t) {
        if (!dishes.has(t)) {
            return BAD;
        }
        if (rack.isIn(t) || rack.isWashed(t)) {
            return NO;
        }
        int bits = 0;
        for (int s = 0; s < dishes.slots; s++) {
            if (rack.fits(t, s)) {
                bits |= 1 << s;
            }
        }
        return bits;
    }

    // ---- what would be

    public int place(int t, int what) {
        if (!dishes.has(t) || !isBit(what)) {
            return BAD;
        }
        if (rack.isWashed(t)) {
            return NO;
        }
        trial.copyFrom(rack);
        trial.leave(t);
        int best = NONE;
        int most = NONE;
        for (int where = 0; where < 2 * dishes.slots; where++) {
            if (trial.fits(t, where / 2)) {
                trial.stand(t, where / 2, where % 2);
                int many = trial.countClean();
                trial.leave(t);
                if (many > most) {
                    most = many;
                    best = where;
                }
            }
        }
        return what == 0 ? best : most;
    }

    public int byHand(int what) {
        if (!isBit(what)) {
            return BAD;
        }
        int dirty = rack.inBits() & ~rack.cleanBits(rack.strength);
        int best = NONE;
        int most = NONE;
        for (int t = 0; t < dishes.things; t++) {
            if (((dirty >> t) & 1) == 1) {
                int many = countCleanWithout(t);
                if (many > most) {
                    most = many;
                    best = t;
                }
            }
        }
        return what == 0 ? best : most;
    }

    private int countCleanWithout(int t) {
        trial.copyFrom(rack);
        trial.leave(t);
        return trial.countClean();
    }

    public int order(int k) {
        if (k < -1) {
            return BAD;
        }
        orders.find(rack.washed, rack.strength);
        if (k == -1) {
            return orders.mostClean;
        }
        return k < orders.size && k < MOST_THINGS ? orders.best[k] : NONE;
    }

    public int ways(int who) {
        if (!isBit(who)) {
            return BAD;
        }
        return who == 0
            ? orders.countByNumber(rack.washed, rack.strength)
            : orders.countByHeight(rack.washed, rack.strength);
    }

    public int weakest() {
        int all = rack.inBits();
        if (all == 0) {
            return NONE;
        }
        for (int p = 1; p <= MOST_WATER; p++) {
            if (rack.cleanBits(p) == all) {
                return p;
            }
        }
        return NONE;
    }

    // ---- what was seen

    public int seen(int t, int clean) {
        if (!dishes.has(t) || !isBit(clean)) {
            return BAD;
        }
        if (!rack.isIn(t) || ((seenThings >> t) & 1) == 1) {
            return NO;
        }
        seenThings |= 1 << t;
        seenClean |= clean << t;
        return Integer.bitCount(seenThings);
    }

    public int forget() {
        int were = Integer.bitCount(seenThings);
        seenThings = 0;
        seenClean = 0;
        return were;
    }

    public int strong() {
        int asked = seenThings & rack.inBits();
        int bits = 0;
        for (int p = 1; p <= MOST_WATER; p++) {
            if ((rack.cleanBits(p) & asked) == (seenClean & asked)) {
                bits |= 1 << p;
            }
        }
        return bits;
    }

    // ---- running it

    public int run(int h, int n, int what) {
        if (!isHour(h) || n < 1 || n > HOURS || !isBit(what)) {
            return BAD;
        }
        int hour = cheapestHour(h, n);
        return what == 0 ? hour : costAt(hour);
    }

    private int cheapestHour(int from, int many) {
        int best = from % HOURS;
        for (int i = 1; i < many; i++) {
            int hour = (from + i) % HOURS;
            if (costAt(hour) < costAt(best)) {
                best = hour;
            }
        }
        return best;
    }

    private int costAt(int hour) {
        return isHour(hour) ? dishes.costs[hour] : 0;
    }

    public int half(int h, int n) {
        if (!isHour(h) || n < 1 || n > HOURS) {
            return BAD;
        }
        int now = rack.countClean();
        if (now == 0) {
            return 0;
        }
        orders.find(rack.washed, rack.strength);
        if (orders.mostClean == 0) {
            return 1;
        }
        int costNow = costAt(cheapestHour(h, n));
        int costLater = costAt(cheapestHour(h + n, n));
        // Both sides times both counts: so nothing is cut by a division.
        return costNow * orders.mostClean < costLater * now ? 1 : 0;
    }

    public int isClean(int x, int s, int u, int c, int part) {
        if (!isTenth(x) || !isTenth(s) || !isTenth(u) || !isTenth(c) || !isBit(part)) {
            return BAD;
        }
        int wasRun = x * s * 10;
        int all = wasRun + (10 - x) * u * c;
        if (all == 0) {
            return NONE;
        }
        int common = commonDivisor(wasRun, all);
        if (common == 0) {
            return NONE;
        }
        return (part == 0 ? wasRun : all) / common;
    }

    private static int commonDivisor(int a, int b) {
        int high = a;
        int low = b;
        // Numbers up to 2000 need far fewer steps than 40.
        for (int i = 0; i < 40 && low != 0; i++) {
            int rest = high % low;
            high = low;
            low = rest;
        }
        return high;
    }

    public int day(int z, int n, int what) {
        if (z < 0 || z > MOST_DAY || n < 1 || n > MOST_TIMES || !isBit(what)) {
            return BAD;
        }
        trial.copyFrom(rack);
        trial.leaveAll();
        for (int time = 0; time < n; time++) {
            drawInto(trial, drawOf(z, time));
        }
        return what == 0 ? trial.inBits() : trial.cleanBits(trial.strength);
    }

    private static int drawOf(int z, int time) {
        long x = 7919L * z + 6151L * time + 1;
        return (int) (x * x % 65521 / 2);
    }

    private void drawInto(Rack into, int draw) {
        if (dishes.things == 0 || dishes.slots == 0) {
            return;
        }
        int t = draw % dishes.things;
        int s = draw / 8 % dishes.slots;
        if (!into.isWashed(t) && !into.isIn(t) && into.fits(t, s)) {
            into.stand(t, s, draw / 128 % 2);
        }
    }

    // ---- kept

    public int keep() {
        if (kept.size >= MOST_KEPT) {
            return FULL;
        }
        kept.push(rack);
        return kept.size;
    }

    public int back() {
        if (kept.size == 0) {
            return NO;
        }
        kept.pop(rack);
        past.size = 0;
        return kept.size;
    }

    public int count(int what) {
        switch (what) {
            case 0: return dishes.things;
            case 1: return dishes.slots;
            case 2: return dishes.jet;
            case 3: return dishes.arm;
            case 4: return rack.strength;
            case 5: return rack.countIn();
            case 6: return Integer.bitCount(rack.washed);
            case 7: return Integer.bitCount(seenThings);
            case 8: return past.size;
            case 9: return kept.size;
            case 10: return length;
            default: return BAD;
        }
    }

    private static boolean isBit(int number) {
        return number == 0 || number == 1;
    }

    private static boolean isHour(int number) {
        return number >= 0 && number < HOURS;
    }

    private static boolean isTenth(int number) {
        return number >= 0 && number <= 10;
    }

    /** What a text tells and no act alters. */
    private static final class Dishes {
        int slots;
        int jet;
        int arm;
        int things;
        final int[] kinds = new int[MOST_THINGS];
        final int[] widths = new int[MOST_THINGS];
        final int[] heights = new int[MOST_THINGS];
        final int[] dirts = new int[MOST_THINGS];
        final int[] costs = new int[HOURS];

        void begin() {
            slots = 12;
            jet = 5;
            arm = 6;
            things = 0;
            Arrays.fill(costs, 10);
        }

        void copyFrom(Dishes other) {
            slots = other.slots;
            jet = other.jet;
            arm = other.arm;
            things = other.things;
            System.arraycopy(other.kinds, 0, kinds, 0, MOST_THINGS);
            System.arraycopy(other.widths, 0, widths, 0, MOST_THINGS);
            System.arraycopy(other.heights, 0, heights, 0, MOST_THINGS);
            System.arraycopy(other.dirts, 0, dirts, 0, MOST_THINGS);
            System.arraycopy(other.costs, 0, costs, 0, HOURS);
        }

        boolean has(int t) {
            return t >= 0 && t < things;
        }

        boolean hasSlot(int s) {
            return s >= 0 && s < slots;
        }

        boolean strikes(int t) {
            return kinds[t] == LADLE && heights[t] > arm;
        }

        int sideAt(int t, int first) {
            if (first + widths[t] - 1 < jet) {
                return LEFT;
            }
            return first > jet ? RIGHT : OVER;
        }
    }

    /** What stands where, the water and what is washed: all that an act alters. */
    private static final class Rack {
        private final Dishes dishes;
        final int[] begins = new int[MOST_THINGS];
        final int[] turned = new int[MOST_THINGS];
        // Follows from begins; held so that a search through orders need not work it out anew.
        private final int[] sides = new int[MOST_THINGS];
        int washed;
        int strength;

        Rack(Dishes dishes) {
            this.dishes = dishes;
        }

        void copyFrom(Rack other) {
            System.arraycopy(other.begins, 0, begins, 0, MOST_THINGS);
            System.arraycopy(other.turned, 0, turned, 0, MOST_THINGS);
            System.arraycopy(other.sides, 0, sides, 0, MOST_THINGS);
            washed = other.washed;
            strength = other.strength;
        }

        void stand(int t, int first, int how) {
            begins[t] = first;
            turned[t] = how;
            sides[t] = dishes.sideAt(t, first);
        }

        void leave(int t) {
            begins[t] = OUT;
            turned[t] = TURNED_LEFT;
            sides[t] = NOWHERE;
        }

        void leaveAll() {
            for (int t = 0; t < MOST_THINGS; t++) {
                leave(t);
            }
        }

        boolean isIn(int t) {
            return sides[t] != NOWHERE;
        }

        boolean isWashed(int t) {
            return ((washed >> t) & 1) == 1;
        }

        int inBits() {
            int bits = 0;
            for (int t = 0; t < dishes.things; t++) {
                if (isIn(t)) {
                    bits |= 1 << t;
                }
            }
            return bits;
        }

        int countIn() {
            return Integer.bitCount(inBits());
        }

        int ownerOf(int s) {
            for (int t = 0; t < dishes.things; t++) {
                if (isIn(t) && s >= begins[t] && s < begins[t] + dishes.widths[t]) {
                    return t;
                }
            }
            return NONE;
        }

        boolean fits(int t, int first) {
            int behind = first + dishes.widths[t];
            if (first < 0 || behind > dishes.slots) {
                return false;
            }
            for (int o = 0; o < dishes.things; o++) {
                if (o != t && isIn(o) && begins[o] < behind && first < begins[o] + dishes.widths[o]) {
                    return false;
                }
            }
            return true;
        }

        boolean looksIn(int t) {
            int turnedIn = sides[t] == LEFT ? TURNED_RIGHT : TURNED_LEFT;
            return sides[t] == OVER || turned[t] == turnedIn;
        }

        int shadowOf(int t) {
            int least = dishes.kinds[t] == SPOON ? dishes.heights[t] : dishes.heights[t] + 1;
            int many = 0;
            for (int o = 0; o < dishes.things; o++) {
                if (dishes.heights[o] >= least && isBetween(t, o)) {
                    many++;
                }
            }
            return dishes.kinds[t] == LADLE ? many / 2 : many;
        }

        private boolean isBetween(int t, int o) {
            if (sides[t] == OVER) {
                return false;
            }
            if (sides[o] != sides[t]) {
                return sides[o] == OVER;
            }
            return sides[t] == LEFT ? begins[o] > begins[t] : begins[o] < begins[t];
        }

        int countClean() {
            return Integer.bitCount(cleanBits(strength));
        }

        int cleanBits(int power) {
            int struck = struckSides();
            int bits = 0;
            for (int t = 0; t < dishes.things; t++) {
                if (isIn(t) && (sides[t] & struck) == 0 && comesClean(t, power)) {
                    bits |= 1 << t;
                }
            }
            return bits;
        }

        private int struckSides() {
            int struck = NOWHERE;
            for (int t = 0; t < dishes.things; t++) {
                if (isIn(t) && dishes.strikes(t)) {
                    struck |= (LEFT | RIGHT) & ~sides[t];
                }
            }
            return struck;
        }

        private boolean comesClean(int t, int power) {
            int kind = dishes.kinds[t];
            boolean in = looksIn(t);
            if (dishes.strikes(t) || kind == BOWL && !in || kind == SPOON && touchesSpoon(t)) {
                return false;
            }
            int needed = kind == PLATE && !in ? dishes.dirts[t] + 1 : dishes.dirts[t];
            return power - shadowOf(t) >= needed;
        }

        private boolean touchesSpoon(int t) {
            int behind = begins[t] + dishes.widths[t];
            for (int o = 0; o < dishes.things; o++) {
                if (o != t && isIn(o) && dishes.kinds[o] == SPOON
                    && (begins[o] == behind || begins[o] + dishes.widths[o] == begins[t])) {
                    return true;
                }
            }
            return false;
        }
    }

    /** Racks laid by, the latest to be had first. */
    private static final class Shelf {
        private static final int ROW = 2 * MOST_THINGS + 2;

        private final int most;
        private final int[] rows;
        int size;

        Shelf(int most) {
            this.most = Math.max(1, most);
            this.rows = new int[this.most * ROW];
        }

        void push(Rack rack) {
            if (size >= most) {
                // The oldest gives way to the latest.
                System.arraycopy(rows, ROW, rows, 0, (most - 1) * ROW);
                size = most - 1;
            }
            int at = size * ROW;
            System.arraycopy(rack.begins, 0, rows, at, MOST_THINGS);
            System.arraycopy(rack.turned, 0, rows, at + MOST_THINGS, MOST_THINGS);
            rows[at + 2 * MOST_THINGS] = rack.washed;
            rows[at + 2 * MOST_THINGS + 1] = rack.strength;
            size++;
        }

        void pop(Rack rack) {
            if (size <= 0) {
                return;
            }
            size--;
            int at = size * ROW;
            for (int t = 0; t < MOST_THINGS; t++) {
                if (rows[at + t] == OUT) {
                    rack.leave(t);
                } else {
                    rack.stand(t, rows[at + t], rows[at + MOST_THINGS + t]);
                }
            }
            rack.washed = rows[at + 2 * MOST_THINGS];
            rack.strength = rows[at + 2 * MOST_THINGS + 1];
        }
    }

    /** Reads a text into dishes and a rack of its own, so that a fault leaves what is laid alone. */
    private static final class Reader {
        final Dishes dishes = new Dishes();
        final Rack rack = new Rack(dishes);
        private final int[] numbers = new int[MOST_NUMBERS];
        private int told;
        private boolean onlySlotsYet;

        int findFault(int[] letters, int length) {
            begin();
            int bound = Math.min(length, letters.length);
            int at = 0;
            for (int item = 0; item < MOST_LETTERS && at < bound; item++) {
                int behind = readNumbers(letters, at + 1, bound);
                if (behind < 0 || !take(letters[at])) {
                    return at;
                }
                at = behind;
            }
            return NONE;
        }

        private void begin() {
            dishes.begin();
            rack.leaveAll();
            rack.washed = 0;
            rack.strength = 5;
            onlySlotsYet = true;
        }

        /** The place behind the item, or -1 if it is not written as one. */
        private int readNumbers(int[] letters, int from, int bound) {
            told = 0;
            int figures = 0;
            int number = 0;
            for (int i = from; i < bound; i++) {
                int letter = letters[i];
                if (letter >= '0' && letter <= '9' && figures < 2) {
                    number = number * 10 + letter - '0';
                    figures++;
                } else if ((letter == ',' || letter == ';') && figures > 0 && told < MOST_NUMBERS) {
                    numbers[told] = number;
                    told++;
                    number = 0;
                    figures = 0;
                    if (letter == ';') {
                        return i + 1;
                    }
                } else {
                    return -1;
                }
            }
            return -1;
        }

        private boolean take(int letter) {
            if (letter == 'n') {
                return told == 2 && takeSlots(numbers[0], numbers[1]);
            }
            onlySlotsYet = false;
            switch (letter) {
                case 't': return told == 4 && takeThing();
                case 'p': return told == 3 && takePlace(numbers[0], numbers[1], numbers[2]);
                case 'a': return told == 1 && takeArm(numbers[0]);
                case 'w': return told == 1 && takeWater(numbers[0]);
                case 'c': return told == 2 && takeCost(numbers[0], numbers[1]);
                default: return false;
            }
        }

        private boolean takeSlots(int many, int jet) {
            if (!onlySlotsYet || many < LEAST_SLOTS || many > MOST_SLOTS || jet >= many) {
                return false;
            }
            dishes.slots = many;
            dishes.jet = jet;
            return true;
        }

        private boolean takeThing() {
            int t = dishes.things;
            if (t >= MOST_THINGS || numbers[0] > LADLE || !isWithin(numbers[1], MOST_WIDTH)
                || !isWithin(numbers[2], 9) || !isWithin(numbers[3], 9)) {
                return false;
            }
            dishes.kinds[t] = numbers[0];
            dishes.widths[t] = numbers[1];
            dishes.heights[t] = numbers[2];
            dishes.dirts[t] = numbers[3];
            dishes.things = t + 1;
            return true;
        }

        private boolean takePlace(int t, int s, int f) {
            if (!dishes.has(t) || !dishes.hasSlot(s) || !isBit(f) || rack.isIn(t) || !rack.fits(t, s)) {
                return false;
            }
            rack.stand(t, s, f);
            return true;
        }

        private boolean takeArm(int height) {
            if (!isWithin(height, 9)) {
                return false;
            }
            dishes.arm = height;
            return true;
        }

        private boolean takeWater(int p) {
            if (!isWithin(p, MOST_WATER)) {
                return false;
            }
            rack.strength = p;
            return true;
        }

        private boolean takeCost(int hour, int cost) {
            if (!isHour(hour) || !isWithin(cost, 99)) {
                return false;
            }
            dishes.costs[hour] = cost;
            return true;
        }

        private static boolean isWithin(int number, int most) {
            return number >= 1 && number <= most;
        }
    }

    /** Things put one behind the other from slot 0 on. */
    private static final class Orders {
        private final Dishes dishes;
        private final Rack rack;
        private final int[] tried = new int[MOST_THINGS];
        private int hopeful;
        final int[] best = new int[MOST_THINGS];
        int size;
        int mostClean;
        // What was found holds for this water and these washed, until another text is laid.
        boolean found;
        private int foundWashed;
        private int foundStrength;

        Orders(Dishes dishes) {
            this.dishes = dishes;
            this.rack = new Rack(dishes);
        }

        void find(int washed, int strength) {
            if (found && foundWashed == washed && foundStrength == strength) {
                return;
            }
            empty(strength);
            int all = ((1 << dishes.things) - 1) & ~washed;
            hopeful = hopefulOf(all, strength);
            size = Integer.bitCount(all);
            mostClean = -1;
            search(0, 0, all, 0);
            found = true;
            foundWashed = washed;
            foundStrength = strength;
        }

        private void empty(int strength) {
            rack.leaveAll();
            rack.strength = strength;
        }

        private int hopefulOf(int all, int strength) {
            int bits = 0;
            for (int t = 0; t < dishes.things; t++) {
                if (dishes.dirts[t] <= strength && !dishes.strikes(t)) {
                    bits |= 1 << t;
                }
            }
            return bits & all;
        }

        /**
         * Goes through the orders by who is first. What more is put in makes nothing clean that
         * was not, so an order is left as soon as what is clean and what may yet be are too few.
         */
        private void search(int depth, int from, int left, int clean) {
            int fitting = fittingOf(left, from);
            if (depth > MOST_THINGS || clean + Integer.bitCount(fitting & hopeful) <= mostClean) {
                return;
            }
            if (fitting == 0) {
                settle(depth, left, clean);
                return;
            }
            for (int t = 0; t < dishes.things && depth < MOST_THINGS; t++) {
                int bit = 1 << t;
                if ((left & bit) != 0) {
                    tried[depth] = t;
                    if ((fitting & bit) != 0) {
                        int behind = putLookingIn(t, from);
                        int then = Integer.bitCount(rack.cleanBits(rack.strength));
                        search(depth + 1, behind, left & ~bit, then);
                        rack.leave(t);
                    } else {
                        search(depth + 1, from, left & ~bit, clean);
                    }
                }
            }
        }

        private int fittingOf(int left, int from) {
            int bits = 0;
            for (int t = 0; t < dishes.things; t++) {
                if (from + dishes.widths[t] <= dishes.slots) {
                    bits |= 1 << t;
                }
            }
            return bits & left;
        }

        /** The rest all wait: of their orders the first is by number. */
        private void settle(int depth, int left, int clean) {
            mostClean = clean;
            System.arraycopy(tried, 0, best, 0, Math.min(depth, MOST_THINGS));
            int k = depth;
            for (int t = 0; t < dishes.things && k < MOST_THINGS; t++) {
                if (((left >> t) & 1) == 1) {
                    best[k] = t;
                    k++;
                }
            }
        }

        private int putLookingIn(int t, int from) {
            int how = dishes.sideAt(t, from) == LEFT ? TURNED_RIGHT : TURNED_LEFT;
            rack.stand(t, from, how);
            return from + dishes.widths[t];
        }

        private int putIfRoom(int t, int from) {
            return from + dishes.widths[t] <= dishes.slots ? putLookingIn(t, from) : from;
        }

        int countByNumber(int washed, int strength) {
            empty(strength);
            int from = 0;
            for (int t = 0; t < dishes.things; t++) {
                if (((washed >> t) & 1) == 0) {
                    from = putIfRoom(t, from);
                }
            }
            return rack.countClean();
        }

        int countByHeight(int washed, int strength) {
            empty(strength);
            int from = 0;
            for (int height = 9; height >= 1; height--) {
                for (int t = 0; t < dishes.things; t++) {
                    if (dishes.heights[t] == height && ((washed >> t) & 1) == 0) {
                        from = putIfRoom(t, from);
                    }
                }
            }
            return rack.countClean();
        }
    }
}
