/** Promises 8 to 13: putIn, turn, takeOut, wash, water, undo. */
public final class ActsTest {
    private static final Check check = new Check();

    public static void main(String[] args) {
        putIn();
        turn();
        takeOut();
        wash();
        water();
        undoEach();
        undoOnlyEight();
        refusedIsNothing();
        check.end();
    }

    private static void putIn() {
        PlatesLookingIn x = new PlatesLookingIn();
        check.due("putIn(7, 9, 0)", x.putIn(7, 9, 0), Check.BAD);
        check.due("putIn(-1, 9, 0)", x.putIn(-1, 9, 0), Check.BAD);
        check.due("putIn(5, 12, 0)", x.putIn(5, 12, 0), Check.BAD);
        check.due("putIn(5, -1, 0)", x.putIn(5, -1, 0), Check.BAD);
        check.due("putIn(5, 9, 2)", x.putIn(5, 9, 2), Check.BAD);
        check.due("putIn(5, 9, -1)", x.putIn(5, 9, -1), Check.BAD);
        check.due("putIn(0, 12, 0), which is in", x.putIn(0, 12, 0), Check.BAD);
        check.due("putIn(0, 9, 0), which is in", x.putIn(0, 9, 0), Check.NO);
        check.due("putIn(5, 11, 0), over the end", x.putIn(5, 11, 0), Check.NO);
        check.due("putIn(5, 8, 0), taken", x.putIn(5, 8, 0), Check.NO);
        check.due("putIn(5, 3, 0), half taken", x.putIn(5, 3, 0), Check.NO);
        check.due("putIn(5, 10, 1)", x.putIn(5, 10, 1), 6);
        check.due("slot(11)", x.slot(11), 5);
        check.due("thing(5, 4)", x.thing(5, 4), 10);
        check.due("thing(5, 5)", x.thing(5, 5), 1);
        x.wash(0);
        check.due("putIn(0, 4, 0), washed", x.putIn(0, 4, 0), Check.NO);
    }

    private static void turn() {
        PlatesLookingIn x = new PlatesLookingIn();
        check.due("turn(7)", x.turn(7), Check.BAD);
        check.due("turn(-1)", x.turn(-1), Check.BAD);
        check.due("turn(5)", x.turn(5), Check.NO);
        check.due("turn(0)", x.turn(0), 0);
        check.due("turn(0) again", x.turn(0), 1);
        check.due("thing(0, 5)", x.thing(0, 5), 1);
        check.due("thing(0, 4)", x.thing(0, 4), 4);
    }

    private static void takeOut() {
        PlatesLookingIn x = new PlatesLookingIn();
        check.due("takeOut(7)", x.takeOut(7), Check.BAD);
        check.due("takeOut(-1)", x.takeOut(-1), Check.BAD);
        check.due("takeOut(6)", x.takeOut(6), Check.NO);
        check.due("takeOut(2)", x.takeOut(2), 4);
        check.due("takeOut(2) again", x.takeOut(2), Check.NO);
        check.due("slot(1)", x.slot(1), Check.NONE);
        check.due("putIn(2, 1, 0)", x.putIn(2, 1, 0), 5);
    }

    private static void wash() {
        PlatesLookingIn x = new PlatesLookingIn();
        check.due("wash(7)", x.wash(7), Check.BAD);
        check.due("wash(-1)", x.wash(-1), Check.BAD);
        check.due("wash(5), out", x.wash(5), 1);
        check.due("wash(5) again", x.wash(5), Check.NO);
        check.due("wash(0), in", x.wash(0), 2);
        check.due("count(5)", x.count(5), 4);
        check.due("count(6)", x.count(6), 2);
        check.due("slot(4)", x.slot(4), Check.NONE);
        check.due("takeOut(0)", x.takeOut(0), Check.NO);
        check.due("turn(0)", x.turn(0), Check.NO);
    }

    private static void water() {
        PlatesLookingIn x = new PlatesLookingIn();
        check.due("water(0)", x.water(0), Check.BAD);
        check.due("water(10)", x.water(10), Check.BAD);
        check.due("water(9)", x.water(9), 6);
        check.due("water(1)", x.water(1), 9);
        check.due("count(4)", x.count(4), 1);
        check.due("count(8)", x.count(8), 2);
    }

    private static void undoEach() {
        PlatesLookingIn x = new PlatesLookingIn();
        check.due("undo() at first", x.undo(), Check.NO);
        x.putIn(6, 10, 1);
        x.turn(6);
        x.water(3);
        x.wash(2);
        x.takeOut(1);
        check.due("undo() of takeOut", x.undo(), 4);
        check.due("thing(1, 4)", x.thing(1, 4), 6);
        check.due("undo() of wash", x.undo(), 3);
        check.due("thing(2, 4)", x.thing(2, 4), 0);
        check.due("thing(2, 5)", x.thing(2, 5), 1);
        check.due("thing(2, 6)", x.thing(2, 6), 0);
        check.due("undo() of water", x.undo(), 2);
        check.due("count(4)", x.count(4), 6);
        check.due("undo() of turn", x.undo(), 1);
        check.due("thing(6, 5)", x.thing(6, 5), 1);
        check.due("undo() of putIn", x.undo(), 0);
        check.due("thing(6, 4)", x.thing(6, 4), Check.NONE);
        check.due("undo() at last", x.undo(), Check.NO);
    }

    private static void undoOnlyEight() {
        PlatesLookingIn x = new PlatesLookingIn();
        for (int p = 1; p <= 9; p++) {
            x.water(p);
            check.due("count(8) behind " + p, x.count(8), Math.min(p, 8));
        }
        x.takeOut(0);
        for (int left = 7; left >= 0; left--) {
            check.due("undo()", x.undo(), left);
        }
        check.due("undo() of the ninth", x.undo(), Check.NO);
        check.due("the water is the second's", x.count(4), 2);
        check.due("undone is no act", x.count(8), 0);
    }

    private static void refusedIsNothing() {
        PlatesLookingIn x = new PlatesLookingIn();
        x.putIn(0, 9, 0);
        x.putIn(5, 12, 0);
        x.turn(5);
        x.turn(9);
        x.takeOut(5);
        x.wash(8);
        x.water(12);
        x.seen(0, 1);
        x.keep();
        x.clean();
        check.due("count(8)", x.count(8), 0);
        check.due("undo()", x.undo(), Check.NO);
    }
}
