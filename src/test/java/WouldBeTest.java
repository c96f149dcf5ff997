/** Promises 18 to 22: place, byHand, order, ways, weakest. */
public final class WouldBeTest {
    private static final Check check = new Check();

    public static void main(String[] args) {
        placeAtFirst();
        placeOfOneThatIsIn();
        placeTurned();
        byHand();
        orderAtFirst();
        orderWaits();
        orderFollowsWaterAndWashed();
        ways();
        weakest();
        check.end();
    }

    private static void placeAtFirst() {
        PlatesLookingIn x = new PlatesLookingIn();
        check.due("place(7, 0)", x.place(7, 0), Check.BAD);
        check.due("place(-1, 0)", x.place(-1, 0), Check.BAD);
        check.due("place(0, 2)", x.place(0, 2), Check.BAD);
        check.due("place(0, -1)", x.place(0, -1), Check.BAD);
        check.due("place(6, 0)", x.place(6, 0), 18);
        check.due("place(6, 1)", x.place(6, 1), 4);
        check.due("nothing was moved", x.thing(6, 4), Check.NONE);
        check.due("nothing can be undone", x.count(8), 0);
        x.wash(6);
        check.due("place(6, 0), washed", x.place(6, 0), Check.NO);
        check.due("place(6, 2), washed", x.place(6, 2), Check.BAD);
        x = Check.laid("n3,0;t0,4,1,1;t0,1,1,1;");
        check.due("no room: place(0, 0)", x.place(0, 0), Check.NONE);
        check.due("no room: place(0, 1)", x.place(0, 1), Check.NONE);
        x.wash(0);
        check.due("no room, washed: place(0, 0)", x.place(0, 0), Check.NO);
    }

    private static void placeOfOneThatIsIn() {
        PlatesLookingIn x = new PlatesLookingIn();
        check.due("place(4, 0)", x.place(4, 0), 10);
        check.due("place(4, 1)", x.place(4, 1), 5);
        check.due("it stands where it did", x.thing(4, 4), 8);
        // Its own slots are free for it, and where it stands counts as well.
        x = Check.laid("n3,1;t0,3,1,5;p0,0,0;w5;");
        check.due("the only place", x.place(0, 0), 0);
        check.due("clean there", x.place(0, 1), 1);
        x = Check.laid("n4,3;t0,3,1,5;p0,1,0;w5;");
        check.due("a place over its own slots", x.place(0, 0), 1);
        check.due("clean there too", x.place(0, 1), 1);
    }

    private static void placeTurned() {
        PlatesLookingIn x = Check.laid("n3,2;t1,1,1,5;w5;");
        check.due("left of the jet turned right", x.place(0, 0), 1);
        x = Check.laid("n3,0;t0,1,9,9;t1,1,1,5;p0,0,0;w6;");
        check.due("right of the jet turned left", x.place(1, 0), 2);
        check.due("it alone", x.place(1, 1), 1);
        x.water(5);
        check.due("none is clean: the first", x.place(1, 0), 2);
        check.due("none is clean: how many", x.place(1, 1), 0);
    }

    private static void byHand() {
        PlatesLookingIn x = new PlatesLookingIn();
        check.due("byHand(2)", x.byHand(2), Check.BAD);
        check.due("byHand(-1)", x.byHand(-1), Check.BAD);
        check.due("byHand(0)", x.byHand(0), 4);
        check.due("byHand(1)", x.byHand(1), 4);
        check.due("nothing was taken out", x.count(5), 5);
        x.takeOut(4);
        check.due("clean()", x.clean(), 15);
        check.due("all are clean: byHand(0)", x.byHand(0), Check.NONE);
        check.due("all are clean: byHand(1)", x.byHand(1), Check.NONE);
        x.putIn(5, 9, 0);
        check.due("the ladle strikes: byHand(0)", x.byHand(0), 5);
        check.due("the ladle strikes: byHand(1)", x.byHand(1), 4);
        x = Check.laid("n5,2;t0,1,1,9;t0,1,1,9;p0,0,1;p1,4,0;w5;");
        check.due("of several the first", x.byHand(0), 0);
        check.due("none of the others", x.byHand(1), 0);
        x = Check.laid("t0,1,1,1;");
        check.due("an empty rack", x.byHand(0), Check.NONE);
    }

    private static void orderAtFirst() {
        PlatesLookingIn x = new PlatesLookingIn();
        int[] order = {0, 1, 3, 5, 2, 4, 6};
        check.due("order(-2)", x.order(-2), Check.BAD);
        check.due("order(MIN)", x.order(Integer.MIN_VALUE), Check.BAD);
        check.due("order(-1)", x.order(-1), 4);
        for (int k = 0; k < order.length; k++) {
            check.due("order(" + k + ")", x.order(k), order[k]);
        }
        check.due("order(7)", x.order(7), Check.NONE);
        check.due("order(MAX)", x.order(Integer.MAX_VALUE), Check.NONE);
        check.due("the rack is as it was", x.count(5), 5);
        x.takeOut(0);
        check.due("what is in is all the same", x.order(-1), 4);
    }

    private static void orderWaits() {
        PlatesLookingIn x = Check.laid("n3,2;t0,4,1,1;t1,2,1,1;t0,2,1,9;t2,1,1,1;w1;");
        check.due("order(-1)", x.order(-1), 2);
        int[] order = {0, 1, 2, 3};
        for (int k = 0; k < order.length; k++) {
            check.due("waiting: order(" + k + ")", x.order(k), order[k]);
        }
        check.due("waiting: order(4)", x.order(4), Check.NONE);
    }

    private static void orderFollowsWaterAndWashed() {
        PlatesLookingIn x = Check.laid("n6,5;t0,1,9,9;t0,1,1,1;t0,1,1,5;");
        check.due("order(-1)", x.order(-1), 2);
        check.due("order(0)", x.order(0), 0);
        x.water(9);
        check.due("stronger: order(-1)", x.order(-1), 3);
        x.water(4);
        check.due("weaker: order(-1)", x.order(-1), 1);
        x.undo();
        check.due("stronger again: order(-1)", x.order(-1), 3);
        x.keep();
        x.wash(0);
        check.due("washed: order(-1)", x.order(-1), 2);
        check.due("washed: order(0)", x.order(0), 1);
        check.due("washed: order(2)", x.order(2), Check.NONE);
        x.back();
        check.due("back: order(-1)", x.order(-1), 3);
        check.due("back: order(2)", x.order(2), 2);
        Check.writeAll(x, "t0,1,1,9;w9;");
        x.lay();
        check.due("another text: order(-1)", x.order(-1), 1);
        check.due("another text: order(1)", x.order(1), Check.NONE);
    }

    private static void ways() {
        PlatesLookingIn x = new PlatesLookingIn();
        check.due("ways(2)", x.ways(2), Check.BAD);
        check.due("ways(-1)", x.ways(-1), Check.BAD);
        check.due("ways(0)", x.ways(0), 1);
        check.due("ways(1)", x.ways(1), 3);
        // Right of the jet, the highest first: all others are in its shadow.
        x = Check.laid("n4,0;t0,1,1,5;t0,1,2,5;t0,1,3,5;t0,1,4,5;");
        check.due("lowest first: ways(0)", x.ways(0), 4);
        check.due("highest first: ways(1)", x.ways(1), 1);
        x.wash(3);
        check.due("washed: ways(0)", x.ways(0), 3);
        check.due("washed: ways(1)", x.ways(1), 1);
        // Of the same height the lowest number first: the plate of 3 slots waits.
        x = Check.laid("n4,0;t0,2,4,9;t0,3,4,1;t0,2,4,1;");
        check.due("waiting: ways(0)", x.ways(0), 1);
        check.due("waiting: ways(1)", x.ways(1), 1);
        x = Check.laid("n3,0;t0,1,1,1;t0,3,9,9;");
        check.due("his: ways(0)", x.ways(0), 1);
        check.due("hers: ways(1)", x.ways(1), 0);
    }

    private static void weakest() {
        PlatesLookingIn x = new PlatesLookingIn();
        check.due("spoons touch: weakest()", x.weakest(), Check.NONE);
        x.takeOut(3);
        check.due("weakest()", x.weakest(), 7);
        check.due("the water is as it was", x.count(4), 6);
        x.takeOut(4);
        check.due("without it: weakest()", x.weakest(), 6);
        x = Check.laid("t0,1,1,1;");
        check.due("empty: weakest()", x.weakest(), Check.NONE);
        x.putIn(0, 0, 1);
        check.due("the least: weakest()", x.weakest(), 1);
        x = Check.laid("t0,1,1,9;p0,0,0;");
        check.due("more than 9: weakest()", x.weakest(), Check.NONE);
        x.turn(0);
        check.due("9: weakest()", x.weakest(), 9);
    }
}
