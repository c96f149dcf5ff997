/** Promises 30 to 32: keep, back, count. */
public final class KeptTest {
    private static final Check check = new Check();

    public static void main(String[] args) {
        keepAndBack();
        whatIsKept();
        backAndUndo();
        count();
        check.end();
    }

    private static void keepAndBack() {
        PlatesLookingIn x = new PlatesLookingIn();
        check.due("back() at first", x.back(), Check.NO);
        check.due("keep()", x.keep(), 1);
        x.takeOut(0);
        check.due("keep()", x.keep(), 2);
        x.takeOut(1);
        check.due("keep() a third", x.keep(), Check.FULL);
        check.due("count(9)", x.count(9), 2);
        check.due("back()", x.back(), 1);
        check.due("as kept last", x.count(5), 4);
        check.due("thing(1, 4)", x.thing(1, 4), 6);
        x.wash(2);
        check.due("back()", x.back(), 0);
        check.due("as kept first", x.count(5), 5);
        check.due("back() at last", x.back(), Check.NO);
        check.due("keep() anew", x.keep(), 1);
    }

    private static void whatIsKept() {
        PlatesLookingIn x = new PlatesLookingIn();
        x.wash(6);
        x.water(8);
        x.turn(2);
        x.keep();
        x.undo();
        x.undo();
        x.undo();
        x.seen(0, 1);
        x.wash(2);
        check.due("back()", x.back(), 0);
        check.due("the water", x.count(4), 8);
        check.due("what is washed", x.thing(6, 6), 1);
        check.due("what is not", x.thing(2, 6), 0);
        check.due("where it stands", x.thing(2, 4), 0);
        check.due("how it is turned", x.thing(2, 5), 0);
        check.due("seen is not kept", x.count(7), 1);
        check.due("pooled()", x.pooled(), 4);
    }

    private static void backAndUndo() {
        PlatesLookingIn x = new PlatesLookingIn();
        x.water(3);
        x.keep();
        check.due("keep is no act: count(8)", x.count(8), 1);
        x.water(4);
        check.due("count(8)", x.count(8), 2);
        x.back();
        check.due("nothing can be undone: count(8)", x.count(8), 0);
        check.due("undo()", x.undo(), Check.NO);
        x.water(5);
        check.due("undo() of what came behind", x.undo(), 0);
        check.due("count(4)", x.count(4), 3);
        x.keep();
        x.takeOut(0);
        check.due("undo()", x.undo(), 0);
        check.due("undo leaves what is kept", x.count(9), 1);
    }

    private static void count() {
        PlatesLookingIn x = Check.laid("n4,2;t0,1,1,1;t0,1,1,1;t0,1,1,1;p0,0,0;p1,1,0;a3;w7;");
        x.write('n');
        x.write('n');
        x.wash(2);
        x.turn(0);
        x.seen(0, 1);
        x.keep();
        int[] counts = {3, 4, 2, 3, 7, 2, 1, 1, 2, 1, 2};
        for (int what = 0; what < counts.length; what++) {
            check.due("count(" + what + ")", x.count(what), counts[what]);
        }
        check.due("count(11)", x.count(11), Check.BAD);
        check.due("count(-1)", x.count(-1), Check.BAD);
    }
}
