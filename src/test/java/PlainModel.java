import java.util.ArrayList;
import java.util.List;

/**
 * The document again, in the plainest way and another one than the program's: the rack is a row of
 * slots, every question is answered from it anew, every order is tried to its end.
 */
final class PlainModel {
    static final int BAD = -1, NO = -2, FULL = -3, NONE = -4;

    record Dish(int kind, int wide, int high, int dirt) { }

    record State(int[] slots, int[] turned, boolean[] washed, int water) {
        State copy() {
            return new State(slots.clone(), turned.clone(), washed.clone(), water);
        }

        State with(int p) {
            return new State(slots.clone(), turned.clone(), washed.clone(), p);
        }
    }

    final List<Dish> dishes = new ArrayList<>();
    final int[] costs = new int[24];
    int jet;
    int arm;
    State now;
    final List<State> past = new ArrayList<>();
    final List<State> kept = new ArrayList<>();
    final List<int[]> seenOnes = new ArrayList<>();
    String text = "";

    PlainModel() {
        text = "n12,5;t0,1,5,3;t0,1,7,4;t1,3,4,5;t2,1,2,2;t2,1,2,6;t3,2,8,3;t0,2,6,1;"
            + "p0,4,1;p1,6,0;p2,0,1;p3,7,0;p4,8,0;a7;w6;c2,4;c3,4;c7,30;";
        lay();
        text = "";
    }

    // ---- racks

    int write(int letter) {
        if (letter < 32 || letter > 126) return BAD;
        if (text.length() == 200) return FULL;
        text += (char) letter;
        return text.length();
    }

    int wipe() {
        int was = text.length();
        text = "";
        return was;
    }

    int fault() {
        return read(new Told());
    }

    int lay() {
        Told told = new Told();
        if (read(told) != NONE || told.dishes.isEmpty()) return NO;
        dishes.clear();
        dishes.addAll(told.dishes);
        System.arraycopy(told.costs, 0, costs, 0, 24);
        jet = told.jet;
        arm = told.arm;
        now = new State(told.slots, told.turned, new boolean[7], told.water);
        past.clear();
        kept.clear();
        seenOnes.clear();
        return dishes.size();
    }

    static final class Told {
        final List<Dish> dishes = new ArrayList<>();
        final int[] costs = new int[24];
        int[] slots = emptySlots(12);
        final int[] turned = new int[7];
        int jet = 5;
        int arm = 6;
        int water = 5;
        boolean other;

        Told() {
            java.util.Arrays.fill(costs, 10);
        }
    }

    static int[] emptySlots(int many) {
        int[] slots = new int[many];
        java.util.Arrays.fill(slots, NONE);
        return slots;
    }

    private int read(Told told) {
        int at = 0;
        while (at < text.length()) {
            int semicolon = text.indexOf(';', at);
            if (semicolon < 0) return at;
            if (!accept(told, text.substring(at, semicolon))) return at;
            at = semicolon + 1;
        }
        return NONE;
    }

    private static boolean accept(Told told, String item) {
        if (!item.matches("[ntpawc][0-9]{1,2}(,[0-9]{1,2})*")) return false;
        String[] parts = item.substring(1).split(",");
        int[] v = new int[parts.length];
        for (int i = 0; i < v.length; i++) v[i] = Integer.parseInt(parts[i]);
        char letter = item.charAt(0);
        if (letter != 'n') told.other = true;
        switch (letter) {
            case 'n':
                if (told.other || v.length != 2 || v[0] < 3 || v[0] > 14 || v[1] >= v[0]) return false;
                told.slots = emptySlots(v[0]);
                told.jet = v[1];
                return true;
            case 't':
                if (v.length != 4 || told.dishes.size() == 7 || v[0] > 3 || v[1] < 1 || v[1] > 4
                    || v[2] < 1 || v[2] > 9 || v[3] < 1 || v[3] > 9) return false;
                told.dishes.add(new Dish(v[0], v[1], v[2], v[3]));
                return true;
            case 'p':
                if (v.length != 3 || v[0] >= told.dishes.size() || v[2] > 1) return false;
                if (first(told.slots, v[0]) != NONE) return false;
                if (!free(told.slots, v[1], told.dishes.get(v[0]).wide())) return false;
                fill(told.slots, v[1], told.dishes.get(v[0]).wide(), v[0]);
                told.turned[v[0]] = v[2];
                return true;
            case 'a':
                if (v.length != 1 || v[0] < 1 || v[0] > 9) return false;
                told.arm = v[0];
                return true;
            case 'w':
                if (v.length != 1 || v[0] < 1 || v[0] > 9) return false;
                told.water = v[0];
                return true;
            default:
                if (v.length != 2 || v[0] > 23 || v[1] < 1) return false;
                told.costs[v[0]] = v[1];
                return true;
        }
    }

    static int first(int[] slots, int t) {
        for (int s = 0; s < slots.length; s++) if (slots[s] == t) return s;
        return NONE;
    }

    static int last(int[] slots, int t) {
        for (int s = slots.length - 1; s >= 0; s--) if (slots[s] == t) return s;
        return NONE;
    }

    static boolean free(int[] slots, int from, int many) {
        for (int s = from; s < from + many; s++) if (s >= slots.length || slots[s] != NONE) return false;
        return true;
    }

    static void fill(int[] slots, int from, int many, int t) {
        for (int s = from; s < from + many; s++) slots[s] = t;
    }

    static void clear(int[] slots, int t) {
        for (int s = 0; s < slots.length; s++) if (slots[s] == t) slots[s] = NONE;
    }

    private boolean is(int t) {
        return t >= 0 && t < dishes.size();
    }

    private static boolean in(State state, int t) {
        return first(state.slots, t) != NONE;
    }

    int thing(int t, int what) {
        if (!is(t) || what < 0 || what > 6) return BAD;
        Dish dish = dishes.get(t);
        return switch (what) {
            case 0 -> dish.kind();
            case 1 -> dish.wide();
            case 2 -> dish.high();
            case 3 -> dish.dirt();
            case 4 -> first(now.slots, t);
            case 5 -> in(now, t) ? now.turned[t] : NONE;
            default -> now.washed[t] ? 1 : 0;
        };
    }

    int slot(int s) {
        return s < 0 || s >= now.slots.length ? BAD : now.slots[s];
    }

    // ---- acts

    private void remember() {
        past.add(now.copy());
        if (past.size() > 8) past.remove(0);
    }

    private static int many(boolean[] bits) {
        int many = 0;
        for (boolean bit : bits) if (bit) many++;
        return many;
    }

    private int manyIn() {
        int many = 0;
        for (int t = 0; t < dishes.size(); t++) if (in(now, t)) many++;
        return many;
    }

    int putIn(int t, int s, int f) {
        if (!is(t) || s < 0 || s >= now.slots.length || f < 0 || f > 1) return BAD;
        if (in(now, t) || now.washed[t] || !free(now.slots, s, dishes.get(t).wide())) return NO;
        remember();
        fill(now.slots, s, dishes.get(t).wide(), t);
        now.turned[t] = f;
        return manyIn();
    }

    int turn(int t) {
        if (!is(t)) return BAD;
        if (!in(now, t)) return NO;
        remember();
        now.turned[t] ^= 1;
        return now.turned[t];
    }

    int takeOut(int t) {
        if (!is(t)) return BAD;
        if (!in(now, t)) return NO;
        remember();
        clear(now.slots, t);
        return manyIn();
    }

    int wash(int t) {
        if (!is(t)) return BAD;
        if (now.washed[t]) return NO;
        remember();
        clear(now.slots, t);
        now.washed[t] = true;
        return many(now.washed);
    }

    int water(int p) {
        if (p < 1 || p > 9) return BAD;
        remember();
        int was = now.water;
        now = now.with(p);
        return was;
    }

    int undo() {
        if (past.isEmpty()) return NO;
        now = past.remove(past.size() - 1);
        return past.size();
    }

    // ---- what comes clean

    private char side(State state, int t) {
        if (last(state.slots, t) < jet) return 'L';
        return first(state.slots, t) > jet ? 'R' : 'O';
    }

    private boolean looks(State state, int t) {
        char side = side(state, t);
        return side == 'O' || side == 'L' && state.turned[t] == 1 || side == 'R' && state.turned[t] == 0;
    }

    private boolean strikes(int t) {
        return dishes.get(t).kind() == 3 && dishes.get(t).high() > arm;
    }

    private int shadow(State state, int t) {
        char side = side(state, t);
        if (side == 'O') return 0;
        List<Integer> between = new ArrayList<>();
        int step = side == 'L' ? 1 : -1;
        int edge = side == 'L' ? last(state.slots, t) : first(state.slots, t);
        // From its edge to the jet's slot: all whose slots come there are between.
        for (int s = edge + step; s != jet + step; s += step) {
            int o = state.slots[s];
            if (o != NONE && !between.contains(o)) between.add(o);
        }
        Dish dish = dishes.get(t);
        int many = 0;
        for (int o : between) {
            int high = dishes.get(o).high();
            if (high > dish.high() || high == dish.high() && dish.kind() == 2) many++;
        }
        return dish.kind() == 3 ? many / 2 : many;
    }

    private boolean touches(State state, int t) {
        int before = first(state.slots, t) - 1;
        int behind = last(state.slots, t) + 1;
        return before >= 0 && state.slots[before] != NONE && dishes.get(state.slots[before]).kind() == 2
            || behind < state.slots.length && state.slots[behind] != NONE
                && dishes.get(state.slots[behind]).kind() == 2;
    }

    private boolean struck(State state, int t) {
        if (strikes(t)) return true;
        for (int o = 0; o < dishes.size(); o++) {
            if (o == t || !in(state, o) || !strikes(o)) continue;
            char mine = side(state, t);
            char its = side(state, o);
            if (mine != 'O' && mine != its) return true;
        }
        return false;
    }

    private boolean comes(State state, int t) {
        if (struck(state, t)) return false;
        Dish dish = dishes.get(t);
        int rest = state.water - shadow(state, t) - dish.dirt();
        return switch (dish.kind()) {
            case 0 -> rest >= (looks(state, t) ? 0 : 1);
            case 1 -> looks(state, t) && rest >= 0;
            case 2 -> !touches(state, t) && rest >= 0;
            default -> rest >= 0;
        };
    }

    private int cleanBits(State state) {
        int bits = 0;
        for (int t = 0; t < dishes.size(); t++) if (in(state, t) && comes(state, t)) bits += 1 << t;
        return bits;
    }

    private int inBits(State state) {
        int bits = 0;
        for (int t = 0; t < dishes.size(); t++) if (in(state, t)) bits += 1 << t;
        return bits;
    }

    private int manyClean(State state) {
        return Integer.bitCount(cleanBits(state));
    }

    int stands(int t, int what) {
        if (!is(t) || what < 0 || what > 3) return BAD;
        if (!in(now, t)) return NO;
        return switch (what) {
            case 0 -> shadow(now, t);
            case 1 -> looks(now, t) ? 1 : 0;
            case 2 -> strikes(t) ? 1 : 0;
            default -> comes(now, t) ? 1 : 0;
        };
    }

    int clean() {
        return cleanBits(now);
    }

    int pooled() {
        int bits = 0;
        for (int t = 0; t < dishes.size(); t++) {
            if (in(now, t) && dishes.get(t).kind() == 1 && !looks(now, t)) bits += 1 << t;
        }
        return bits;
    }

    int room(int t) {
        if (!is(t)) return BAD;
        if (in(now, t) || now.washed[t]) return NO;
        int bits = 0;
        for (int s = 0; s < now.slots.length; s++) {
            if (free(now.slots, s, dishes.get(t).wide())) bits += 1 << s;
        }
        return bits;
    }

    // ---- what would be

    int place(int t, int what) {
        if (!is(t) || what < 0 || what > 1) return BAD;
        if (now.washed[t]) return NO;
        int best = NONE;
        int most = NONE;
        for (int s = 0; s < now.slots.length; s++) {
            for (int f = 0; f < 2; f++) {
                State there = now.copy();
                clear(there.slots, t);
                if (!free(there.slots, s, dishes.get(t).wide())) continue;
                fill(there.slots, s, dishes.get(t).wide(), t);
                there.turned[t] = f;
                if (manyClean(there) > most) {
                    most = manyClean(there);
                    best = 2 * s + f;
                }
            }
        }
        return what == 0 ? best : most;
    }

    int byHand(int what) {
        if (what < 0 || what > 1) return BAD;
        int best = NONE;
        int most = NONE;
        for (int t = 0; t < dishes.size(); t++) {
            if (!in(now, t) || comes(now, t)) continue;
            State without = now.copy();
            clear(without.slots, t);
            if (manyClean(without) > most) {
                most = manyClean(without);
                best = t;
            }
        }
        return what == 0 ? best : most;
    }

    private int cleanInOrder(List<Integer> order) {
        State state = now.copy();
        java.util.Arrays.fill(state.slots, NONE);
        int from = 0;
        for (int t : order) {
            int wide = dishes.get(t).wide();
            if (from + wide > state.slots.length) continue;
            fill(state.slots, from, wide, t);
            state.turned[t] = side(state, t) == 'L' ? 1 : 0;
            from += wide;
        }
        return manyClean(state);
    }

    private List<Integer> unwashed() {
        List<Integer> all = new ArrayList<>();
        for (int t = 0; t < dishes.size(); t++) if (!now.washed[t]) all.add(t);
        return all;
    }

    List<Integer> bestOrder;
    private int bestMany;

    private void tryOrders(List<Integer> begun, List<Integer> rest) {
        if (rest.isEmpty()) {
            int many = cleanInOrder(begun);
            if (many > bestMany) {
                bestMany = many;
                bestOrder = new ArrayList<>(begun);
            }
            return;
        }
        for (int i = 0; i < rest.size(); i++) {
            List<Integer> fewer = new ArrayList<>(rest);
            begun.add(fewer.remove(i));
            tryOrders(begun, fewer);
            begun.remove(begun.size() - 1);
        }
    }

    private void findOrder() {
        bestMany = -1;
        tryOrders(new ArrayList<>(), unwashed());
    }

    int order(int k) {
        if (k < -1) return BAD;
        findOrder();
        if (k == -1) return bestMany;
        return k < bestOrder.size() ? bestOrder.get(k) : NONE;
    }

    int ways(int who) {
        if (who < 0 || who > 1) return BAD;
        List<Integer> order = unwashed();
        if (who == 1) order.sort((a, b) -> dishes.get(b).high() - dishes.get(a).high());
        return cleanInOrder(order);
    }

    int weakest() {
        if (manyIn() == 0) return NONE;
        for (int p = 1; p <= 9; p++) if (manyClean(now.with(p)) == manyIn()) return p;
        return NONE;
    }

    // ---- what was seen

    int seen(int t, int clean) {
        if (!is(t) || clean < 0 || clean > 1) return BAD;
        if (!in(now, t)) return NO;
        for (int[] one : seenOnes) if (one[0] == t) return NO;
        seenOnes.add(new int[] {t, clean});
        return seenOnes.size();
    }

    int forget() {
        int were = seenOnes.size();
        seenOnes.clear();
        return were;
    }

    int strong() {
        int bits = 0;
        for (int p = 1; p <= 9; p++) {
            State state = now.with(p);
            boolean so = true;
            for (int[] one : seenOnes) {
                if (in(state, one[0]) && comes(state, one[0]) != (one[1] == 1)) so = false;
            }
            if (so) bits += 1 << p;
        }
        return bits;
    }

    // ---- running it

    int run(int h, int n, int what) {
        if (h < 0 || h > 23 || n < 1 || n > 24 || what < 0 || what > 1) return BAD;
        int best = h;
        for (int i = 0; i < n; i++) if (costs[(h + i) % 24] < costs[best]) best = (h + i) % 24;
        return what == 0 ? best : costs[best];
    }

    int half(int h, int n) {
        if (h < 0 || h > 23 || n < 1 || n > 24) return BAD;
        int mine = manyClean(now);
        if (mine == 0) return 0;
        findOrder();
        if (bestMany == 0) return 1;
        return run(h, n, 1) * bestMany < run((h + n) % 24, n, 1) * mine ? 1 : 0;
    }

    int isClean(int x, int s, int u, int c, int part) {
        for (int tenth : new int[] {x, s, u, c}) if (tenth < 0 || tenth > 10) return BAD;
        if (part < 0 || part > 1) return BAD;
        int above = x * s * 10;
        int below = above + (10 - x) * u * c;
        if (below == 0) return NONE;
        for (int d = 2; d <= below; d++) {
            while (above % d == 0 && below % d == 0) {
                above /= d;
                below /= d;
            }
        }
        return part == 0 ? above : below;
    }

    int day(int z, int n, int what) {
        if (z < 0 || z > 9999 || n < 1 || n > 30 || what < 0 || what > 1) return BAD;
        State state = now.copy();
        java.util.Arrays.fill(state.slots, NONE);
        for (int i = 0; i < n; i++) {
            java.math.BigInteger x = java.math.BigInteger.valueOf(7919L * z + 6151L * i + 1);
            int draw = x.multiply(x).mod(java.math.BigInteger.valueOf(65521)).intValue() / 2;
            int t = draw % dishes.size();
            int s = draw / 8 % state.slots.length;
            int wide = dishes.get(t).wide();
            if (state.washed[t] || in(state, t) || !free(state.slots, s, wide)) continue;
            fill(state.slots, s, wide, t);
            state.turned[t] = draw / 128 % 2;
        }
        return what == 0 ? inBits(state) : cleanBits(state);
    }

    // ---- kept

    int keep() {
        if (kept.size() == 2) return FULL;
        kept.add(now.copy());
        return kept.size();
    }

    int back() {
        if (kept.isEmpty()) return NO;
        now = kept.remove(kept.size() - 1);
        past.clear();
        return kept.size();
    }

    int count(int what) {
        return switch (what) {
            case 0 -> dishes.size();
            case 1 -> now.slots.length;
            case 2 -> jet;
            case 3 -> arm;
            case 4 -> now.water;
            case 5 -> manyIn();
            case 6 -> many(now.washed);
            case 7 -> seenOnes.size();
            case 8 -> past.size();
            case 9 -> kept.size();
            case 10 -> text.length();
            default -> BAD;
        };
    }
}
