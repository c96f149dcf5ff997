/** Section 4 and promises 23 to 32: each of their sentences that names an edge. */
public final class RunningEdgesTest {
    private static final int NONE = Check.NONE, BAD = Check.BAD, NO = Check.NO, FULL = Check.FULL;
    private static final int ALL_WATERS = 0x3fe;
    private static final int[] NO_BITS = {Check.LOWEST, -1, 2, 3, Check.HIGHEST};
    private static final int[] NO_HOURS = {Check.LOWEST, -24, -1, 24, 25, Check.HIGHEST};
    private static final int[] NO_SPANS = {Check.LOWEST, -1, 0, 25, 48, Check.HIGHEST};
    private static final Check check = new Check();

    public static void main(String[] args) {
        seenRefused();
        seenSeven();
        forget();
        strongAtTheEnds();
        strongOfThoseIn();
        runRefused();
        runHours();
        runOfSeveral();
        halfRefused();
        halfHoursBehind();
        halfLess();
        halfOfNone();
        isCleanRefused();
        isCleanLikely();
        isCleanNone();
        isCleanLowestTerms();
        dayRefused();
        dayDraws();
        dayNotPut();
        dayAsideFromTheRack();
        keepTwo();
        back();
        backIsNotUndone();
        count();
        check.end();
    }

    private static void seenRefused() {
        check.edge("SEEN: how many. BAD; NO: it is out, SEEN already.");
        PlatesLookingIn x = Check.laid("n3,1;t0,1,1,1;t0,1,1,1;p0,0,1;");
        int[] none = {Check.LOWEST, -1, 2, 7, Check.HIGHEST};
        for (int t : none) {
            check.due("seen(" + t + ", 0)", x.seen(t, 0), BAD);
        }
        for (int clean : NO_BITS) {
            check.due("seen(0, " + clean + ")", x.seen(0, clean), BAD);
            check.due("BAD ahead of NO: seen(1, " + clean + ")", x.seen(1, clean), BAD);
        }
        check.due("out: seen(1, 1)", x.seen(1, 1), NO);
        check.due("none of these was seen: count(7)", x.count(7), 0);
        check.due("seen(0, 1)", x.seen(0, 1), 1);
        check.due("seen already, alike: seen(0, 1)", x.seen(0, 1), NO);
        check.due("seen already, not alike: seen(0, 0)", x.seen(0, 0), NO);
        check.due("BAD ahead of NO: seen(0, 2)", x.seen(0, 2), BAD);
        check.due("it stays as first seen: strong()", x.strong(), ALL_WATERS);
        x.takeOut(0);
        check.due("seen already and out: seen(0, 1)", x.seen(0, 1), NO);
        x.putIn(0, 2, 0);
        check.due("seen already and in anew: seen(0, 1)", x.seen(0, 1), NO);
        x.wash(0);
        check.due("washed: seen(0, 1)", x.seen(0, 1), NO);
        check.due("count(7)", x.count(7), 1);
    }

    private static void seenSeven() {
        check.edge("SEEN (7 at most, of each THING once) is that a THING of the RACK came CLEAN or not (1, 0)");
        PlatesLookingIn x = Check.laid("n7,6;" + "t0,1,1,1;".repeat(7));
        for (int t = 0; t < 7; t++) {
            x.putIn(t, t, 1);
        }
        for (int t = 6; t >= 0; t--) {
            check.due("seen(" + t + ", 1)", x.seen(t, 1), 7 - t);
        }
        for (int t = 0; t < 7; t++) {
            check.due("an eighth: seen(" + t + ", 1)", x.seen(t, 1), NO);
        }
        check.due("count(7)", x.count(7), 7);
        check.due("strong()", x.strong(), ALL_WATERS);
    }

    private static void forget() {
        check.edge("Nothing is SEEN: how many were.");
        PlatesLookingIn x = Check.laid("n3,1;t0,1,1,5;t0,1,1,5;p0,0,1;p1,2,0;");
        check.due("none: forget()", x.forget(), 0);
        x.seen(0, 1);
        x.seen(1, 0);
        check.due("that can not be: strong()", x.strong(), 0);
        check.due("two: forget()", x.forget(), 2);
        check.due("again: forget()", x.forget(), 0);
        check.due("count(7)", x.count(7), 0);
        check.due("nothing is left of it: strong()", x.strong(), ALL_WATERS);
        check.due("it can be seen anew: seen(0, 0)", x.seen(0, 0), 1);
        check.due("not clean: strong()", x.strong(), 0b11110);
    }

    private static void strongAtTheEnds() {
        check.edge("STRONG: WATERS (1 to 9, as bits)");
        for (int dirt = 1; dirt <= 9; dirt++) {
            PlatesLookingIn x = Check.laid("n3,1;t0,1,1," + dirt + ";p0,0,1;");
            int weaker = (1 << dirt) - 2;
            x.seen(0, 1);
            check.due("dirt " + dirt + ", clean: strong()", x.strong(), ALL_WATERS & ~weaker);
            x.forget();
            x.seen(0, 0);
            check.due("dirt " + dirt + ", not clean: strong()", x.strong(), weaker);
        }
        PlatesLookingIn x = Check.laid("n3,1;t0,1,1,1;t1,1,1,1;p1,0,0;");
        check.due("nothing seen: strong()", x.strong(), ALL_WATERS);
        x.seen(1, 1);
        check.due("a bowl full of water came clean: strong()", x.strong(), 0);
        x.forget();
        x.seen(1, 0);
        check.due("a bowl full of water did not: strong()", x.strong(), ALL_WATERS);
    }

    private static void strongOfThoseIn() {
        check.edge("all that was SEEN of those that are in now would be so, as it stands now");
        PlatesLookingIn x = Check.laid("n5,4;t0,1,1,3;t0,1,9,6;p0,0,1;p1,1,1;");
        x.seen(0, 1);
        x.seen(1, 0);
        check.due("4 or more by the shadow, 5 at most: strong()", x.strong(), 0b110000);
        x.takeOut(1);
        check.due("one is out: strong()", x.strong(), ALL_WATERS & ~0b110);
        x.takeOut(0);
        check.due("both are out: strong()", x.strong(), ALL_WATERS);
        check.due("both are seen all the same: count(7)", x.count(7), 2);
        x.putIn(0, 0, 0);
        check.due("in anew, looking out: strong()", x.strong(), ALL_WATERS & ~0b1110);
        x.undo();
        x.undo();
        x.undo();
        check.due("undone: strong()", x.strong(), 0b110000);
    }

    private static void runRefused() {
        check.edge("RUN: the HOUR (what = 0), what it costs (1). BAD.");
        PlatesLookingIn x = new PlatesLookingIn();
        for (int h : NO_HOURS) {
            check.due("run(" + h + ", 1, 0)", x.run(h, 1, 0), BAD);
        }
        for (int n : NO_SPANS) {
            check.due("run(0, " + n + ", 0)", x.run(0, n, 0), BAD);
            check.due("run(23, " + n + ", 1)", x.run(23, n, 1), BAD);
        }
        for (int what : NO_BITS) {
            check.due("run(0, 1, " + what + ")", x.run(0, 1, what), BAD);
        }
        check.due("run(0, 1, 0)", x.run(0, 1, 0), 0);
        check.due("run(23, 24, 1)", x.run(23, 24, 1), 4);
    }

    private static void runHours() {
        check.edge("RUN from HOUR h in n (1 to 24) HOURS: the HOUR that costs least");
        PlatesLookingIn x = Check.laid("t0,1,1,1;c5,1;c23,2;c0,3;c4,99;");
        check.due("that hour alone: run(4, 1, 0)", x.run(4, 1, 0), 4);
        check.due("that hour alone: run(4, 1, 1)", x.run(4, 1, 1), 99);
        check.due("the last hour of them: run(4, 2, 0)", x.run(4, 2, 0), 5);
        check.due("not as far: run(1, 4, 0)", x.run(1, 4, 0), 1);
        check.due("as far: run(1, 5, 0)", x.run(1, 5, 0), 5);
        check.due("up to midnight: run(22, 2, 0)", x.run(22, 2, 0), 23);
        check.due("the last hour: run(23, 1, 1)", x.run(23, 1, 1), 2);
        check.due("over midnight: run(23, 2, 0)", x.run(23, 2, 0), 23);
        check.due("over midnight: run(23, 6, 0)", x.run(23, 6, 0), 23);
        check.due("over midnight: run(23, 7, 0)", x.run(23, 7, 0), 5);
        check.due("over midnight: run(23, 7, 1)", x.run(23, 7, 1), 1);
        check.due("all but hour 5: run(6, 23, 0)", x.run(6, 23, 0), 23);
        check.due("all: run(6, 24, 0)", x.run(6, 24, 0), 5);
        check.due("all: run(6, 24, 1)", x.run(6, 24, 1), 1);
    }

    private static void runOfSeveral() {
        check.edge("the HOUR that costs least, of several the first");
        PlatesLookingIn x = Check.laid("t0,1,1,1;");
        for (int h = 0; h < 24; h++) {
            check.due("all alike: run(" + h + ", 24, 0)", x.run(h, 24, 0), h);
        }
        x = Check.laid("t0,1,1,1;c2,4;c3,4;c22,4;");
        check.due("run(0, 24, 0)", x.run(0, 24, 0), 2);
        check.due("from 3 on: run(3, 24, 0)", x.run(3, 24, 0), 3);
        check.due("from 4 on: run(4, 24, 0)", x.run(4, 24, 0), 22);
        check.due("over midnight: run(23, 24, 0)", x.run(23, 24, 0), 2);
    }

    private static void halfRefused() {
        check.edge("HALF. BAD.");
        PlatesLookingIn x = new PlatesLookingIn();
        PlatesLookingIn y = Check.laid("t0,1,1,1;");
        for (int h : NO_HOURS) {
            check.due("half(" + h + ", 1)", x.half(h, 1), BAD);
            check.due("none is clean: half(" + h + ", 1)", y.half(h, 1), BAD);
        }
        for (int n : NO_SPANS) {
            check.due("half(0, " + n + ")", x.half(0, n), BAD);
            check.due("none is clean: half(0, " + n + ")", y.half(0, n), BAD);
        }
    }

    private static void halfHoursBehind() {
        check.edge("RUN from the HOUR behind these on, in n HOURS");
        // One plate, clean now and in order: half is whether now is cheaper than behind.
        PlatesLookingIn x = Check.laid("n3,1;t0,1,1,1;p0,0,1;c0,5;c1,6;c23,4;c22,4;c12,3;");
        check.due("4 now, 5 over midnight: half(23, 1)", x.half(23, 1), 1);
        check.due("5 now, 6 behind: half(0, 1)", x.half(0, 1), 1);
        check.due("6 now, 10 behind: half(1, 1)", x.half(1, 1), 1);
        check.due("10 now, 4 behind: half(21, 1)", x.half(21, 1), 0);
        check.due("4 now, 4 behind: half(22, 1)", x.half(22, 1), 0);
        check.due("4 now, 5 in hours 0 and 1: half(22, 2)", x.half(22, 2), 1);
        check.due("3 now, 3 again: half(0, 24)", x.half(0, 24), 0);
        check.due("5 in 0 to 11, 3 in 12 to 23: half(0, 12)", x.half(0, 12), 0);
        check.due("3 in 12 to 23, 5 in 0 to 11: half(12, 12)", x.half(12, 12), 1);
        check.due("3 in 12 to 11, 3 again: half(12, 24)", x.half(12, 24), 0);
        check.due("4 in 13 to 11, 3 in 12 to 10: half(13, 23)", x.half(13, 23), 0);
        check.due("3 in 23 to 21, 3 in 22 to 20: half(23, 23)", x.half(23, 23), 0);
    }

    private static void halfLess() {
        check.edge("is less than what .. costs by each that is CLEAN by IN ORDER (1, 0");
        // One of three is clean now, three in order.
        String three = "n6,5;t0,1,1,1;t0,1,1,1;t0,1,1,1;p1,0,1;";
        check.due("5 and 14 by 3", Check.laid(three + "c0,5;c1,14;").half(0, 1), 0);
        check.due("5 and 15 by 3", Check.laid(three + "c0,5;c1,15;").half(0, 1), 0);
        check.due("5 and 16 by 3", Check.laid(three + "c0,5;c1,16;").half(0, 1), 1);
        check.due("1 and 99 by 3", Check.laid(three + "c0,1;c1,99;").half(0, 1), 1);
        check.due("33 and 99 by 3", Check.laid(three + "c0,33;c1,99;").half(0, 1), 0);
        // More are clean now than in order: the spoons touch there.
        String spoons = "n6,2;t2,1,1,1;t2,1,1,1;t2,1,1,1;p0,0,1;p1,2,1;p2,4,1;t0,1,9,1;w5;";
        PlatesLookingIn x = Check.laid(spoons + "c0,30;c1,20;");
        check.due("clean()", x.clean(), 7);
        check.due("order(-1)", x.order(-1), 2);
        check.due("30 by 3 and 20 by 2", x.half(0, 1), 0);
        check.due("29 by 3 and 20 by 2", Check.laid(spoons + "c0,29;c1,20;").half(0, 1), 1);
    }

    private static void halfOfNone() {
        check.edge("none CLEAN now: 0; none CLEAN by IN ORDER: 1 then");
        PlatesLookingIn x = Check.laid("n3,1;t0,1,1,1;c0,1;c1,99;");
        check.due("an empty rack", x.half(0, 1), 0);
        x.putIn(0, 0, 1);
        check.due("one is clean", x.half(0, 1), 1);
        x.wash(0);
        check.due("washed: neither now nor in order", x.half(0, 1), 0);
        x = Check.laid("n3,1;t0,1,1,9;p0,0,1;w1;c0,1;c1,99;");
        check.due("not clean: neither now nor in order", x.half(0, 1), 0);
        x = Check.laid("n6,2;t2,1,1,1;t2,1,1,1;p0,0,1;p1,5,0;c0,99;c1,1;");
        check.due("two are clean now: clean()", x.clean(), 3);
        check.due("none in order: order(-1)", x.order(-1), 0);
        check.due("none in order: half(0, 1)", x.half(0, 1), 1);
    }

    private static void isCleanRefused() {
        check.edge("NONE; BAD (x, s, u, c 0 to 10).");
        PlatesLookingIn x = new PlatesLookingIn();
        int[] wrong = {Check.LOWEST, -1, 11, 100, Check.HIGHEST};
        for (int n : wrong) {
            check.due("isClean(" + n + ", 5, 5, 5, 0)", x.isClean(n, 5, 5, 5, 0), BAD);
            check.due("isClean(5, " + n + ", 5, 5, 0)", x.isClean(5, n, 5, 5, 0), BAD);
            check.due("isClean(5, 5, " + n + ", 5, 0)", x.isClean(5, 5, n, 5, 0), BAD);
            check.due("isClean(5, 5, 5, " + n + ", 0)", x.isClean(5, 5, 5, n, 0), BAD);
            check.due("BAD ahead of NONE: isClean(" + n + ", 0, 0, 0, 0)", x.isClean(n, 0, 0, 0, 0), BAD);
        }
        for (int part : NO_BITS) {
            check.due("isClean(5, 5, 5, 5, " + part + ")", x.isClean(5, 5, 5, 5, part), BAD);
            check.due("BAD ahead of NONE: isClean(0, 0, 0, 0, " + part + ")", x.isClean(0, 0, 0, 0, part), BAD);
        }
    }

    private static void dueLikely(int[] tenths, int above, int below) {
        PlatesLookingIn x = new PlatesLookingIn();
        String call = "isClean(" + tenths[0] + ", " + tenths[1] + ", " + tenths[2] + ", " + tenths[3];
        check.due(call + ", 0)", x.isClean(tenths[0], tenths[1], tenths[2], tenths[3], 0), above);
        check.due(call + ", 1)", x.isClean(tenths[0], tenths[1], tenths[2], tenths[3], 1), below);
    }

    private static void isCleanLikely() {
        check.edge("it was run by x (0 to 10) of ten; the SIGN is turned then by s of ten, if it was not run by u of ten; "
            + "a cup out of it is clean, if it was run, else by c of ten");
        dueLikely(new int[] {0, 10, 10, 10}, 0, 1);
        dueLikely(new int[] {10, 1, 10, 10}, 1, 1);
        dueLikely(new int[] {5, 0, 1, 1}, 0, 1);
        dueLikely(new int[] {9, 0, 1, 1}, 0, 1);
        dueLikely(new int[] {5, 1, 0, 10}, 1, 1);
        dueLikely(new int[] {5, 1, 10, 0}, 1, 1);
        dueLikely(new int[] {10, 10, 10, 10}, 1, 1);
        dueLikely(new int[] {5, 10, 10, 10}, 1, 2);
        dueLikely(new int[] {1, 10, 10, 10}, 1, 10);
        dueLikely(new int[] {9, 10, 10, 10}, 9, 10);
    }

    private static void isCleanNone() {
        check.edge("none (that can not be)");
        dueLikely(new int[] {0, 0, 0, 0}, NONE, NONE);
        dueLikely(new int[] {0, 10, 0, 10}, NONE, NONE);
        dueLikely(new int[] {0, 10, 10, 0}, NONE, NONE);
        dueLikely(new int[] {10, 0, 10, 10}, NONE, NONE);
        dueLikely(new int[] {5, 0, 0, 10}, NONE, NONE);
        dueLikely(new int[] {5, 0, 10, 0}, NONE, NONE);
    }

    private static void isCleanLowestTerms() {
        check.edge("how likely it was run .. in lowest terms");
        // Above is 10 x s, below that and (10 - x) u c.
        dueLikely(new int[] {1, 1, 9, 9}, 10, 739);
        dueLikely(new int[] {2, 2, 2, 2}, 5, 9);
        dueLikely(new int[] {3, 3, 7, 7}, 90, 433);
        dueLikely(new int[] {9, 7, 1, 1}, 630, 631);
        dueLikely(new int[] {4, 6, 5, 8}, 1, 2);
        dueLikely(new int[] {1, 1, 10, 10}, 1, 91);
    }

    private static void dayRefused() {
        check.edge("A DAY by z (0 to 9999) of n (1 to 30) times. BAD.");
        PlatesLookingIn x = new PlatesLookingIn();
        int[] days = {Check.LOWEST, -1, 10000, Check.HIGHEST};
        for (int z : days) {
            check.due("day(" + z + ", 1, 0)", x.day(z, 1, 0), BAD);
        }
        int[] times = {Check.LOWEST, -1, 0, 31, Check.HIGHEST};
        for (int n : times) {
            check.due("day(0, " + n + ", 0)", x.day(0, n, 0), BAD);
        }
        for (int what : NO_BITS) {
            check.due("day(0, 1, " + what + ")", x.day(0, 1, what), BAD);
        }
        check.due("day(0, 1, 0)", x.day(0, 1, 0), 1);
        check.due("day(9999, 1, 0)", x.day(9999, 1, 0), 1 << 3);
        check.due("day(9999, 30, 0) is an answer", x.day(9999, 30, 0) >= 0 ? 1 : 0, 1);
    }

    private static void dayDraws() {
        check.edge("DRAW being ((x times x) modulo 65521) by 2, cut, x 7919 z, 6151 (the time, 0 first) and 1 together");
        // Day 0 draws 0, 20743, 5149, 18739, .. : things 0, 2, 4, 0, ..; slots of 14: 0, 2, 13, 4, ..
        PlatesLookingIn x = Check.laid("n14,2;" + "t0,1,1,5;".repeat(7) + "w5;");
        check.due("day(0, 1, 0)", x.day(0, 1, 0), 0b1);
        check.due("day(0, 2, 0)", x.day(0, 2, 0), 0b101);
        check.due("day(0, 3, 0)", x.day(0, 3, 0), 0b10101);
        // Turned left: in slot 0 it looks out, in slot 2 it is over, in slot 13 it looks in.
        check.due("day(0, 3, 1)", x.day(0, 3, 1), 0b10100);
        // Day 1 draws 11401, 27050: things 5, 2; slots of 14: 11, 7; both turned right, so looking out.
        check.due("day(1, 2, 0)", x.day(1, 2, 0), 0b100100);
        check.due("day(1, 2, 1)", x.day(1, 2, 1), 0);
        x.water(6);
        check.due("stronger water: day(1, 2, 1)", x.day(1, 2, 1), 0b100100);
        // Day 9999: x times x is beyond an int; draws 25651: thing 3, slot 0 of 14.
        check.due("day(9999, 1, 0)", x.day(9999, 1, 0), 0b1000);
        x = Check.laid("n3,2;t0,1,1,5;w5;");
        // Of one thing, of 3 slots: day 9999 puts it into slot 2, over the jet; day 0 into slot 0.
        check.due("of one thing: day(9999, 1, 1)", x.day(9999, 1, 1), 1);
        check.due("of one thing: day(0, 1, 1)", x.day(0, 1, 1), 0);
        check.due("of one thing: day(0, 1, 0)", x.day(0, 1, 0), 1);
    }

    private static void dayNotPut() {
        check.edge("if it is not washed, is out, and has room there");
        // Day 0 puts thing 0 into slot 0 at first, and would put it over the jet then.
        PlatesLookingIn x = Check.laid("n14,2;t0,1,1,5;w5;");
        check.due("it is in already: day(0, 2, 1)", x.day(0, 2, 1), 0);
        check.due("it is in already: day(0, 30, 0)", x.day(0, 30, 0), 1);
        x.wash(0);
        check.due("washed: day(0, 1, 0)", x.day(0, 1, 0), 0);
        check.due("washed: day(0, 30, 0)", x.day(0, 30, 0), 0);
        x = Check.laid("n3,2;t0,4,1,1;");
        check.due("wider than the rack: day(0, 30, 0)", x.day(0, 30, 0), 0);
        // Of the first rack's: thing 0 into slot 0, then thing 2 into slot 0 as well.
        x = new PlatesLookingIn();
        check.due("its slot is taken: day(0, 2, 0)", x.day(0, 2, 0), 1);
        x.wash(0);
        check.due("its slot is free then: day(0, 2, 0)", x.day(0, 2, 0), 4);
        // Day 9999: thing 3 of seven into slot 2 of 3: its width of 2 is over the end.
        x = Check.laid("n3,2;t0,2,1,1;t0,2,1,1;t0,2,1,1;t0,2,1,1;t0,2,1,1;t0,2,1,1;t0,2,1,1;");
        check.due("over the end: day(9999, 1, 0)", x.day(9999, 1, 0), 0);
        check.due("then slot 1: day(9999, 2, 0)", x.day(9999, 2, 0), 8);
    }

    private static void dayAsideFromTheRack() {
        check.edge("in each of an empty RACK");
        PlatesLookingIn x = Check.laid("n3,2;t0,1,1,1;t0,1,1,1;t0,1,1,1;p0,2,0;p1,0,0;p2,1,0;");
        check.due("a full rack is not in the way: day(0, 1, 0)", x.day(0, 1, 0), 1);
        check.due("the rack is as it was: count(5)", x.count(5), 3);
        check.due("the rack is as it was: slot(0)", x.slot(0), 1);
        check.due("no act: count(8)", x.count(8), 0);
        check.due("again the same: day(0, 1, 0)", x.day(0, 1, 0), 1);
    }

    private static void keepTwo() {
        check.edge("KEPT are the RACK, the WATER, what is washed: 2 at most. FULL.");
        PlatesLookingIn x = Check.laid("n3,1;t0,1,1,1;t0,1,1,1;p0,0,1;w3;");
        check.due("keep()", x.keep(), 1);
        x.water(9);
        x.wash(1);
        x.turn(0);
        check.due("keep()", x.keep(), 2);
        x.takeOut(0);
        x.water(1);
        check.due("a third: keep()", x.keep(), FULL);
        check.due("again: keep()", x.keep(), FULL);
        check.due("count(9)", x.count(9), 2);
        check.due("back()", x.back(), 1);
        check.due("the second: count(4)", x.count(4), 9);
        check.due("the second: thing(0, 5)", x.thing(0, 5), 0);
        check.due("the second: thing(1, 6)", x.thing(1, 6), 1);
        check.due("there is room again: keep()", x.keep(), 2);
        x.back();
        check.due("back()", x.back(), 0);
        check.due("the first: count(4)", x.count(4), 3);
        check.due("the first: thing(0, 5)", x.thing(0, 5), 1);
        check.due("the first: thing(1, 6)", x.thing(1, 6), 0);
    }

    private static void back() {
        check.edge("As KEPT last: how many are left .. NO.");
        PlatesLookingIn x = Check.laid("n3,1;t0,1,1,1;p0,0,1;");
        check.due("none kept: back()", x.back(), NO);
        x.water(9);
        check.due("none kept: back()", x.back(), NO);
        check.due("nothing has changed: count(4)", x.count(4), 9);
        check.due("nothing has changed: count(8)", x.count(8), 1);
        x.keep();
        check.due("one kept: back()", x.back(), 0);
        check.due("none left: back()", x.back(), NO);
        check.due("as kept: count(4)", x.count(4), 9);
        x.keep();
        x.seen(0, 1);
        x.write('a');
        x.back();
        check.due("what was seen is not kept: count(7)", x.count(7), 1);
        check.due("the text is not kept: count(10)", x.count(10), 1);
    }

    private static void backIsNotUndone() {
        check.edge("nothing is UNDONE then");
        PlatesLookingIn x = Check.laid("n3,1;t0,1,1,1;p0,0,1;");
        x.water(9);
        x.keep();
        x.turn(0);
        x.back();
        check.due("count(8)", x.count(8), 0);
        check.due("undo()", x.undo(), NO);
        check.due("as kept: count(4)", x.count(4), 9);
        x.turn(0);
        check.due("what comes behind can be: undo()", x.undo(), 0);
        check.due("as kept: thing(0, 5)", x.thing(0, 5), 1);
        x.keep();
        x.takeOut(0);
        x.undo();
        check.due("undo takes nothing that is kept: count(9)", x.count(9), 1);
    }

    private static void count() {
        check.edge("How many: 0 THINGS .. 10 letters of THE TEXT. BAD.");
        PlatesLookingIn x = Check.laid("n3,2;t0,1,1,1;");
        int[] wrong = {Check.LOWEST, -2, -1, 11, 12, Check.HIGHEST};
        for (int what : wrong) {
            check.due("count(" + what + ")", x.count(what), BAD);
        }
        int[] least = {1, 3, 2, 6, 5, 0, 0, 0, 0, 0, 0};
        for (int what = 0; what < least.length; what++) {
            check.due("count(" + what + ")", x.count(what), least[what]);
        }
        x = Check.laid("n14,13;" + "t0,2,1,1;".repeat(7) + "a9;w9;");
        for (int t = 0; t < 7; t++) {
            x.putIn(t, 2 * t, 0);
            x.seen(t, 0);
        }
        x.keep();
        x.keep();
        Check.writeAll(x, "x".repeat(200));
        x.turn(0);
        int[] most = {7, 14, 13, 9, 9, 7, 0, 7, 8, 2, 200};
        for (int what = 0; what < most.length; what++) {
            check.due("count(" + what + ")", x.count(what), most[what]);
        }
        for (int t = 0; t < 7; t++) {
            x.wash(t);
        }
        check.due("all washed: count(6)", x.count(6), 7);
        check.due("all washed: count(5)", x.count(5), 0);
    }
}
