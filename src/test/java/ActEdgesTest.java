/** Promises 8 to 13: each of their sentences that names an edge. */
public final class ActEdgesTest {
    private static final int NONE = Check.NONE, BAD = Check.BAD, NO = Check.NO;
    private static final int[] NO_THINGS = {Check.LOWEST, -1, 3, 7, 32, Check.HIGHEST};
    private static final String THREE = "n6,3;t0,1,1,1;t1,3,2,1;t0,4,3,1;";
    private static final Check check = new Check();

    public static void main(String[] args) {
        putInBad();
        putInIsIn();
        putInWashed();
        putInNoRoom();
        putInHowMany();
        turn();
        turnOut();
        takeOut();
        wash();
        washedIsOut();
        water();
        undoNone();
        undoTheLastEight();
        undoEachAct();
        undoBehindUndo();
        untilTheLastCall();
        check.end();
    }

    private static void putInBad() {
        check.edge("A THING is put in: how many are in. BAD");
        PlatesLookingIn x = Check.laid(THREE);
        for (int t : NO_THINGS) {
            check.due("putIn(" + t + ", 0, 0)", x.putIn(t, 0, 0), BAD);
        }
        int[] slots = {Check.LOWEST, -1, 6, 14, Check.HIGHEST};
        for (int s : slots) {
            check.due("putIn(0, " + s + ", 0)", x.putIn(0, s, 0), BAD);
        }
        int[] turns = {Check.LOWEST, -1, 2, Check.HIGHEST};
        for (int f : turns) {
            check.due("putIn(0, 0, " + f + ")", x.putIn(0, 0, f), BAD);
        }
        check.due("none is in: count(5)", x.count(5), 0);
        check.due("nothing can be undone: count(8)", x.count(8), 0);
        check.due("the first slot: putIn(0, 0, 0)", x.putIn(0, 0, 0), 1);
        x.takeOut(0);
        check.due("the last slot: putIn(0, 5, 1)", x.putIn(0, 5, 1), 1);
    }

    private static void putInIsIn() {
        check.edge("NO: it is in");
        PlatesLookingIn x = Check.laid(THREE + "p0,2,0;");
        check.due("where it stands: putIn(0, 2, 0)", x.putIn(0, 2, 0), NO);
        check.due("turned: putIn(0, 2, 1)", x.putIn(0, 2, 1), NO);
        check.due("elsewhere: putIn(0, 5, 0)", x.putIn(0, 5, 0), NO);
        check.due("it stands as it did: thing(0, 4)", x.thing(0, 4), 2);
        check.due("it is turned as it was: thing(0, 5)", x.thing(0, 5), 0);
        check.due("BAD ahead of NO: putIn(0, 6, 0)", x.putIn(0, 6, 0), BAD);
        check.due("BAD ahead of NO: putIn(0, 2, 2)", x.putIn(0, 2, 2), BAD);
    }

    private static void putInWashed() {
        check.edge("NO: .. washed");
        PlatesLookingIn x = Check.laid(THREE);
        x.wash(0);
        check.due("putIn(0, 0, 0)", x.putIn(0, 0, 0), NO);
        check.due("BAD ahead of NO: putIn(0, -1, 0)", x.putIn(0, -1, 0), BAD);
        check.due("it is out: count(5)", x.count(5), 0);
        x.undo();
        check.due("not washed any more: putIn(0, 0, 0)", x.putIn(0, 0, 0), 1);
    }

    private static void putInNoRoom() {
        check.edge("NO: .. it has no room");
        PlatesLookingIn x = Check.laid(THREE);
        check.due("to the end and no further: putIn(2, 2, 0)", x.putIn(2, 2, 0), 1);
        x.takeOut(2);
        check.due("over the end by 1: putIn(2, 3, 0)", x.putIn(2, 3, 0), NO);
        check.due("over the end by 3: putIn(2, 5, 0)", x.putIn(2, 5, 0), NO);
        x.putIn(0, 3, 0);
        check.due("up to another: putIn(1, 0, 0)", x.putIn(1, 0, 0), 2);
        x.takeOut(1);
        check.due("its last slot is another's: putIn(1, 1, 0)", x.putIn(1, 1, 0), NO);
        check.due("its middle slot is another's: putIn(1, 2, 0)", x.putIn(1, 2, 0), NO);
        check.due("its first slot is another's: putIn(1, 3, 0)", x.putIn(1, 3, 0), NO);
        check.due("behind another, over the end: putIn(1, 4, 0)", x.putIn(1, 4, 0), NO);
        x.takeOut(0);
        x.putIn(1, 1, 0);
        check.due("in the midst of another: putIn(0, 2, 0)", x.putIn(0, 2, 0), NO);
        check.due("ahead of another: putIn(0, 0, 0)", x.putIn(0, 0, 0), 2);
        x.takeOut(0);
        check.due("behind another: putIn(0, 4, 0)", x.putIn(0, 4, 0), 2);
        x = Check.laid("n3,0;t0,4,1,1;t0,3,1,1;");
        check.due("wider than the rack: putIn(0, 0, 0)", x.putIn(0, 0, 0), NO);
        check.due("as wide as the rack: putIn(1, 0, 0)", x.putIn(1, 0, 0), 1);
        check.due("as wide as the rack: slot(2)", x.slot(2), 1);
    }

    private static void putInHowMany() {
        check.edge("A THING is put in: how many are in.");
        PlatesLookingIn x = Check.laid("n14,0;" + "t0,2,1,1;".repeat(7));
        for (int t = 0; t < 7; t++) {
            check.due("putIn(" + t + ", " + 2 * t + ", 1)", x.putIn(t, 2 * t, 1), t + 1);
        }
        check.due("the rack is full: slot(13)", x.slot(13), 6);
        check.due("count(5)", x.count(5), 7);
    }

    private static void turn() {
        check.edge("A THING is turned: how then. BAD");
        PlatesLookingIn x = Check.laid(THREE + "p0,0,0;");
        for (int t : NO_THINGS) {
            check.due("turn(" + t + ")", x.turn(t), BAD);
        }
        check.due("left to right: turn(0)", x.turn(0), 1);
        check.due("right to left: turn(0)", x.turn(0), 0);
        check.due("each is an act: count(8)", x.count(8), 2);
    }

    private static void turnOut() {
        check.edge("turn: NO: it is out.");
        PlatesLookingIn x = Check.laid(THREE + "p0,0,0;");
        check.due("never in: turn(1)", x.turn(1), NO);
        x.takeOut(0);
        check.due("taken out: turn(0)", x.turn(0), NO);
        x.wash(0);
        check.due("washed: turn(0)", x.turn(0), NO);
        check.due("only the two were acts: count(8)", x.count(8), 2);
    }

    private static void takeOut() {
        check.edge("A THING is taken out: how many are in. BAD; NO: it is out.");
        PlatesLookingIn x = Check.laid(THREE + "p0,0,1;p1,3,0;");
        for (int t : NO_THINGS) {
            check.due("takeOut(" + t + ")", x.takeOut(t), BAD);
        }
        check.due("never in: takeOut(2)", x.takeOut(2), NO);
        check.due("takeOut(0)", x.takeOut(0), 1);
        check.due("already out: takeOut(0)", x.takeOut(0), NO);
        check.due("the last one: takeOut(1)", x.takeOut(1), 0);
        check.due("the rack is empty: slot(3)", x.slot(3), NONE);
        x.undo();
        x.wash(1);
        check.due("washed: takeOut(1)", x.takeOut(1), NO);
    }

    private static void wash() {
        check.edge("A THING is washed by hand: how many are. BAD; NO: it is.");
        PlatesLookingIn x = Check.laid(THREE + "p0,0,1;");
        for (int t : NO_THINGS) {
            check.due("wash(" + t + ")", x.wash(t), BAD);
        }
        check.due("out: wash(1)", x.wash(1), 1);
        check.due("washed: wash(1)", x.wash(1), NO);
        check.due("in: wash(0)", x.wash(0), 2);
        check.due("washed: wash(0)", x.wash(0), NO);
        check.due("the last one: wash(2)", x.wash(2), 3);
        check.due("three acts: count(8)", x.count(8), 3);
    }

    private static void washedIsOut() {
        check.edge("washed by hand (it is CLEAN and out then, can not be put in)");
        PlatesLookingIn x = Check.laid(THREE + "p0,0,1;p1,3,0;");
        x.wash(1);
        check.due("count(5)", x.count(5), 1);
        check.due("slot(4)", x.slot(4), NONE);
        check.due("stands(1, 3)", x.stands(1, 3), NO);
        check.due("those of the rack alone: clean()", x.clean(), 1);
        check.due("its slots are another's: putIn(2, 2, 0)", x.putIn(2, 2, 0), 2);
        check.due("putIn(1, 0, 0)", x.putIn(1, 0, 0), NO);
    }

    private static void water() {
        check.edge("The WATER is p (1 to 9): what it was. BAD.");
        PlatesLookingIn x = Check.laid(THREE);
        int[] wrong = {Check.LOWEST, -1, 0, 10, Check.HIGHEST};
        for (int p : wrong) {
            check.due("water(" + p + ")", x.water(p), BAD);
        }
        check.due("no act: count(8)", x.count(8), 0);
        check.due("the least: water(1)", x.water(1), 5);
        check.due("the most: water(9)", x.water(9), 1);
        check.due("count(4)", x.count(4), 9);
        check.due("the same: water(9)", x.water(9), 9);
        check.due("each is an act: count(8)", x.count(8), 3);
        check.due("undo() of the same", x.undo(), 2);
        check.due("count(4)", x.count(4), 9);
        check.due("undo()", x.undo(), 1);
        check.due("count(4)", x.count(4), 1);
    }

    private static void undoNone() {
        check.edge("UNDONE: how many more can be. NO.");
        PlatesLookingIn x = Check.laid(THREE + "p0,0,0;");
        check.due("nothing was done: undo()", x.undo(), NO);
        x.putIn(0, 1, 0);
        x.turn(1);
        x.takeOut(1);
        x.water(0);
        x.wash(3);
        check.due("only refused ones: undo()", x.undo(), NO);
        x.turn(0);
        check.due("one: undo()", x.undo(), 0);
        check.due("none more: undo()", x.undo(), NO);
        check.due("as it was: thing(0, 5)", x.thing(0, 5), 0);
    }

    private static void undoTheLastEight() {
        check.edge("UNDONE is the latest of these (the last 8 can be).");
        PlatesLookingIn x = Check.laid(THREE + "w9;");
        for (int p = 1; p <= 8; p++) {
            x.water(p);
        }
        check.due("eight: count(8)", x.count(8), 8);
        for (int left = 7; left >= 0; left--) {
            check.due("of eight: undo()", x.undo(), left);
            check.due("of eight: count(4)", x.count(4), left == 0 ? 9 : left);
        }
        check.due("of eight the ninth: undo()", x.undo(), NO);
        for (int p = 1; p <= 9; p++) {
            x.water(p);
        }
        check.due("nine: count(8)", x.count(8), 8);
        for (int left = 7; left >= 0; left--) {
            check.due("of nine: undo()", x.undo(), left);
            check.due("of nine: count(4)", x.count(4), left + 1);
        }
        check.due("of nine the first: undo()", x.undo(), NO);
        check.due("of nine the first stays: count(4)", x.count(4), 1);
        for (int i = 0; i < 40; i++) {
            x.water(1 + i % 9);
        }
        check.due("forty: count(8)", x.count(8), 8);
        check.due("forty: undo()", x.undo(), 7);
        check.due("forty: count(4)", x.count(4), 1 + 38 % 9);
    }

    private static void undoEachAct() {
        check.edge("A THING is put in, turned, taken out; washed by hand ..; the WATER is altered. UNDONE is the latest");
        PlatesLookingIn x = Check.laid(THREE + "p1,3,1;");
        x.putIn(0, 0, 1);
        x.turn(1);
        x.takeOut(1);
        x.wash(0);
        x.wash(2);
        x.water(9);
        check.due("water: undo()", x.undo(), 5);
        check.due("water: count(4)", x.count(4), 5);
        check.due("wash of one out: undo()", x.undo(), 4);
        check.due("wash of one out: thing(2, 6)", x.thing(2, 6), 0);
        check.due("wash of one out: thing(2, 4)", x.thing(2, 4), NONE);
        check.due("wash of one in: undo()", x.undo(), 3);
        check.due("wash of one in: thing(0, 6)", x.thing(0, 6), 0);
        check.due("wash of one in: thing(0, 4)", x.thing(0, 4), 0);
        check.due("wash of one in: thing(0, 5)", x.thing(0, 5), 1);
        check.due("takeOut: undo()", x.undo(), 2);
        check.due("takeOut: thing(1, 4)", x.thing(1, 4), 3);
        check.due("takeOut: thing(1, 5)", x.thing(1, 5), 0);
        check.due("turn: undo()", x.undo(), 1);
        check.due("turn: thing(1, 5)", x.thing(1, 5), 1);
        check.due("putIn: undo()", x.undo(), 0);
        check.due("putIn: thing(0, 4)", x.thing(0, 4), NONE);
        check.due("putIn: count(5)", x.count(5), 1);
    }

    private static void undoBehindUndo() {
        check.edge("UNDONE is the latest of these: undo is none of them");
        PlatesLookingIn x = Check.laid(THREE + "p0,0,0;");
        x.water(1);
        x.water(2);
        x.undo();
        x.turn(0);
        check.due("count(8)", x.count(8), 2);
        check.due("the turn: undo()", x.undo(), 1);
        check.due("thing(0, 5)", x.thing(0, 5), 0);
        check.due("count(4)", x.count(4), 1);
        check.due("the first water: undo()", x.undo(), 0);
        check.due("count(4)", x.count(4), 5);
    }

    private static void untilTheLastCall() {
        check.edge("An object is used for at most 512 calls after it has been made");
        PlatesLookingIn x = new PlatesLookingIn();
        for (int call = 1; call <= 510; call++) {
            check.due("call " + call + ": turn(0)", x.turn(0), call % 2 == 1 ? 0 : 1);
        }
        check.due("call 511: undo()", x.undo(), 7);
        check.due("call 512: thing(0, 5)", x.thing(0, 5), 0);
    }
}
