/** Promises 23 to 25: seen, forget, strong. */
public final class SeenTest {
    private static final Check check = new Check();

    public static void main(String[] args) {
        seen();
        forget();
        strong();
        strongAsItStandsNow();
        check.end();
    }

    private static void seen() {
        PlatesLookingIn x = new PlatesLookingIn();
        check.due("seen(7, 0)", x.seen(7, 0), Check.BAD);
        check.due("seen(-1, 0)", x.seen(-1, 0), Check.BAD);
        check.due("seen(0, 2)", x.seen(0, 2), Check.BAD);
        check.due("seen(0, -1)", x.seen(0, -1), Check.BAD);
        check.due("seen(5, 2), out", x.seen(5, 2), Check.BAD);
        check.due("seen(5, 1), out", x.seen(5, 1), Check.NO);
        check.due("seen(0, 0)", x.seen(0, 0), 1);
        check.due("seen(0, 1) again", x.seen(0, 1), Check.NO);
        check.due("seen(1, 1)", x.seen(1, 1), 2);
        x.takeOut(1);
        x.wash(2);
        check.due("seen stays: count(7)", x.count(7), 2);
        check.due("seen(2, 1), washed", x.seen(2, 1), Check.NO);
        x.undo();
        x.undo();
        check.due("undone: seen(1, 0)", x.seen(1, 0), Check.NO);
        x.putIn(5, 9, 0);
        x.takeOut(4);
        x.putIn(6, 8, 0);
        check.due("count(7)", x.count(7), 2);
        x = Check.laid("t0,1,1,1;".repeat(7) + "p0,0,0;p1,1,0;p2,2,0;p3,3,0;p4,4,0;p5,5,0;p6,6,0;");
        for (int t = 0; t < 7; t++) {
            check.due("seen(" + t + ", 1)", x.seen(t, 1), t + 1);
        }
    }

    private static void forget() {
        PlatesLookingIn x = new PlatesLookingIn();
        check.due("forget() of none", x.forget(), 0);
        x.seen(0, 1);
        x.seen(3, 1);
        check.due("strong()", x.strong(), 0);
        check.due("forget()", x.forget(), 2);
        check.due("count(7)", x.count(7), 0);
        check.due("strong() of none", x.strong(), 1022);
        check.due("seen(0, 0) anew", x.seen(0, 0), 1);
        check.due("strong()", x.strong(), 6);
    }

    private static void strong() {
        // Plates alone on their side, of dirt 3 and 6.
        PlatesLookingIn x = Check.laid("n5,2;t0,1,5,3;t0,1,5,6;p0,0,1;p1,4,0;");
        x.seen(0, 1);
        check.due("3 or more", x.strong(), 0x3f8);
        x.seen(1, 0);
        check.due("3 to 5", x.strong(), 0x38);
        x.forget();
        x.seen(0, 0);
        x.seen(1, 1);
        check.due("that can not be", x.strong(), 0);
        x.forget();
        x.seen(1, 1);
        check.due("6 or more", x.strong(), 0x3c0);
    }

    private static void strongAsItStandsNow() {
        PlatesLookingIn x = Check.laid("n5,2;t0,1,5,3;t0,1,5,6;t0,1,9,1;p0,0,1;p1,4,0;");
        x.seen(0, 1);
        x.seen(1, 0);
        x.water(9);
        check.due("the water now does not matter", x.strong(), 0x38);
        x.takeOut(1);
        check.due("without the one that is out", x.strong(), 0x3f8);
        x.putIn(2, 1, 1);
        check.due("in the shadow", x.strong(), 0x3f0);
        x.turn(0);
        check.due("turned out as well", x.strong(), 0x3e0);
        x.wash(0);
        check.due("none of them is in", x.strong(), 0x3fe);
        check.due("seen all the same", x.count(7), 2);
    }
}
