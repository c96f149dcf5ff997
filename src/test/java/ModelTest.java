import java.util.Random;

/** All promises: runs of drawn calls, answered by the program and by the plain model alike. */
public final class ModelTest {
    private static final int RUNS = 600;
    private static final int CALLS = 512;
    private static final int[] WILD = {Integer.MIN_VALUE, Integer.MAX_VALUE, -3, -2, -1, 100, 1 << 30};

    private final Check check = new Check();
    private final Random random = new Random(20261117);
    private PlatesLookingIn x;
    private PlainModel model;
    private int run;
    private int calls;

    public static void main(String[] args) {
        ModelTest test = new ModelTest();
        for (test.run = 0; test.run < RUNS; test.run++) {
            test.oneRun();
        }
        test.check.end();
    }

    private void oneRun() {
        x = new PlatesLookingIn();
        model = new PlainModel();
        calls = 0;
        // A step may draw a call that is not made, so the steps have a bound of their own.
        for (int step = 0; step < 2 * CALLS && calls < CALLS; step++) {
            if (calls == 0 && run % 3 != 0 || random.nextInt(150) == 0) {
                String text = random.nextInt(4) == 0 ? brokenText() : goodText();
                if (left() >= text.length() + 3) writeText(text);
            }
            if (left() > 0) oneCall();
        }
    }

    /** What an object answers beyond its 512th call is free. */
    private int left() {
        return CALLS - calls;
    }

    private int upTo(int most) {
        return random.nextInt(most + 1);
    }

    /** Mostly from low to high, at times a little or far beyond. */
    private int about(int low, int high) {
        int which = random.nextInt(40);
        if (which == 0) return WILD[random.nextInt(WILD.length)];
        if (which == 1) return low - 1;
        if (which == 2) return high + 1;
        return low + random.nextInt(high - low + 1);
    }

    private String goodText() {
        StringBuilder text = new StringBuilder();
        int slots = 12;
        if (random.nextInt(5) != 0) {
            slots = random.nextBoolean() ? 14 - upTo(3) : 3 + upTo(11);
            text.append("n" + slots + "," + random.nextInt(slots) + ";");
        }
        int things = random.nextInt(3) == 0 ? 7 : 1 + upTo(6);
        int widest = 1 + upTo(3);
        int dirtiest = 2 + upTo(7);
        for (int t = 0; t < things; t++) {
            text.append("t" + upTo(3) + "," + (1 + random.nextInt(widest)) + "," + (1 + upTo(8)) + ","
                + (1 + random.nextInt(dirtiest)) + ";");
        }
        for (int t = 0; t < things; t++) {
            if (random.nextBoolean()) tryPlace(text, t, slots);
        }
        if (random.nextBoolean()) text.append("a" + (1 + upTo(8)) + ";");
        if (random.nextBoolean()) text.append("w" + (1 + upTo(8)) + ";");
        for (int i = upTo(5); i > 0; i--) text.append("c" + upTo(23) + "," + (1 + upTo(98)) + ";");
        return text.length() > 200 ? text.substring(0, 200) : text.toString();
    }

    private void tryPlace(StringBuilder text, int t, int slots) {
        String place = "p" + t + "," + random.nextInt(slots) + "," + upTo(1) + ";";
        PlainModel probe = new PlainModel();
        probe.text = text + place;
        if (probe.fault() == PlainModel.NONE) text.append(place);
    }

    private String brokenText() {
        StringBuilder text = new StringBuilder(goodText());
        String signs = "ntpawc0123456789,;;,;x ~";
        for (int i = upTo(2); i >= 0 && text.length() > 0; i--) {
            int at = random.nextInt(text.length());
            char sign = signs.charAt(random.nextInt(signs.length()));
            switch (random.nextInt(3)) {
                case 0: text.setCharAt(at, sign); break;
                case 1: text.insert(at, sign); break;
                default: text.deleteCharAt(at); break;
            }
        }
        return text.toString();
    }

    private void writeText(String text) {
        due("wipe()", x.wipe(), model.wipe());
        for (int i = 0; i < text.length(); i++) {
            due("write()", x.write(text.charAt(i)), model.write(text.charAt(i)));
        }
        due("fault() of " + text, x.fault(), model.fault());
        due("lay() of " + text, x.lay(), model.lay());
    }

    private void due(String call, int got, int want) {
        calls++;
        check.due("run " + run + ": " + call, got, want);
    }

    private void oneCall() {
        int which = random.nextInt(36);
        int t = about(0, model.dishes.size() - 1);
        int slot = about(0, model.now.slots().length - 1);
        int bit = about(0, 1);
        if (which < 12) {
            act(which, t, slot, bit);
        } else if (which < 24) {
            ask(which - 12, t, slot, bit);
        } else {
            askMore(which - 24, t, bit);
        }
    }

    private void act(int which, int t, int slot, int bit) {
        int p = about(1, 9);
        switch (which) {
            case 0: case 1: case 2: case 3:
                due("putIn(" + t + ", " + slot + ", " + bit + ")", x.putIn(t, slot, bit), model.putIn(t, slot, bit));
                break;
            case 4: due("turn(" + t + ")", x.turn(t), model.turn(t)); break;
            case 5: due("takeOut(" + t + ")", x.takeOut(t), model.takeOut(t)); break;
            case 6:
                if (random.nextInt(3) == 0) due("wash(" + t + ")", x.wash(t), model.wash(t));
                break;
            case 7: due("water(" + p + ")", x.water(p), model.water(p)); break;
            case 8: due("undo()", x.undo(), model.undo()); break;
            case 9: due("keep()", x.keep(), model.keep()); break;
            case 10: due("back()", x.back(), model.back()); break;
            default:
                if (random.nextInt(4) == 0) due("forget()", x.forget(), model.forget());
                break;
        }
    }

    private void ask(int which, int t, int slot, int bit) {
        int what = about(0, 6);
        int how = about(0, 3);
        int counted = about(0, 10);
        switch (which) {
            case 0: due("thing(" + t + ", " + what + ")", x.thing(t, what), model.thing(t, what)); break;
            case 1: due("slot(" + slot + ")", x.slot(slot), model.slot(slot)); break;
            case 2: case 3: due("stands(" + t + ", " + how + ")", x.stands(t, how), model.stands(t, how)); break;
            case 4: due("clean()", x.clean(), model.clean()); break;
            case 5: due("pooled()", x.pooled(), model.pooled()); break;
            case 6: due("room(" + t + ")", x.room(t), model.room(t)); break;
            case 7: due("place(" + t + ", " + bit + ")", x.place(t, bit), model.place(t, bit)); break;
            case 8: due("byHand(" + bit + ")", x.byHand(bit), model.byHand(bit)); break;
            case 9: due("ways(" + bit + ")", x.ways(bit), model.ways(bit)); break;
            case 10: due("weakest()", x.weakest(), model.weakest()); break;
            default: due("count(" + counted + ")", x.count(counted), model.count(counted)); break;
        }
    }

    private void askMore(int which, int t, int bit) {
        int h = about(0, 23);
        int n = about(1, 24);
        int z = about(0, 9999);
        int times = about(1, 30);
        switch (which) {
            case 0: case 1: due("seen(" + t + ", " + bit + ")", x.seen(t, bit), model.seen(t, bit)); break;
            case 2: case 3: due("strong()", x.strong(), model.strong()); break;
            case 4: due("run(" + h + ", " + n + ", " + bit + ")", x.run(h, n, bit), model.run(h, n, bit)); break;
            case 5: case 6: isClean(bit); break;
            case 7: case 8:
                due("day(" + z + ", " + times + ", " + bit + ")", x.day(z, times, bit), model.day(z, times, bit));
                break;
            case 9: due("fault()", x.fault(), model.fault()); break;
            default: dearCall(which, h, n); break;
        }
    }

    private void isClean(int part) {
        int a = about(0, 10);
        int b = about(0, 10);
        int c = about(0, 10);
        int d = about(0, 10);
        due("isClean(" + a + ", " + b + ", " + c + ", " + d + ", " + part + ")",
            x.isClean(a, b, c, d, part), model.isClean(a, b, c, d, part));
    }

    /** The model tries every order to its end, so these are asked less often. */
    private void dearCall(int which, int h, int n) {
        if (random.nextInt(4) != 0 || left() < 10) return;
        if (which == 10) {
            due("half(" + h + ", " + n + ")", x.half(h, n), model.half(h, n));
            return;
        }
        due("order(-1)", x.order(-1), model.order(-1));
        for (int k = 0; k < 8; k++) {
            int want = k < model.bestOrder.size() ? model.bestOrder.get(k) : PlainModel.NONE;
            due("order(" + k + ")", x.order(k), want);
        }
        int k = about(0, 7);
        due("order(" + k + ")", x.order(k), model.order(k));
    }
}
