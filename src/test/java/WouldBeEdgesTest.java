/** Section 3 and promises 18 to 22: each of their sentences that names an edge. */
public final class WouldBeEdgesTest {
    private static final int NONE = Check.NONE, BAD = Check.BAD, NO = Check.NO;
    private static final int[] NO_BITS = {Check.LOWEST, -1, 2, 3, Check.HIGHEST};
    private static final Check check = new Check();

    public static void main(String[] args) {
        placeRefused();
        placeNone();
        placeOfSeveral();
        placeInOrOut();
        placeCountsAll();
        byHandRefused();
        byHandNone();
        byHandOfSeveral();
        byHandWithoutIt();
        orderNumbers();
        orderOfNone();
        orderNotOfWashed();
        orderOfTheEmptyRack();
        orderWaits();
        orderToTheEnd();
        orderLooksIn();
        orderMost();
        orderOfSeveral();
        ways();
        waysByHeight();
        weakest();
        weakestNone();
        check.end();
    }

    private static void placeRefused() {
        check.edge("PLACE: where and how (what = 0), how many (1). NONE; BAD; NO: it is washed.");
        PlatesLookingIn x = Check.laid("n3,0;t0,1,1,1;t0,4,1,1;");
        int[] none = {Check.LOWEST, -1, 2, 7, Check.HIGHEST};
        for (int t : none) {
            check.due("place(" + t + ", 0)", x.place(t, 0), BAD);
            check.due("place(" + t + ", 1)", x.place(t, 1), BAD);
        }
        for (int what : NO_BITS) {
            check.due("place(0, " + what + ")", x.place(0, what), BAD);
            check.due("BAD ahead of NONE: place(1, " + what + ")", x.place(1, what), BAD);
        }
        x.wash(0);
        x.wash(1);
        check.due("washed: place(0, 0)", x.place(0, 0), NO);
        check.due("washed: place(0, 1)", x.place(0, 1), NO);
        check.due("BAD ahead of NO: place(0, 2)", x.place(0, 2), BAD);
        check.due("NO ahead of NONE: place(1, 0)", x.place(1, 0), NO);
    }

    private static void placeNone() {
        check.edge("none (it has no room)");
        PlatesLookingIn x = Check.laid("n3,0;t0,4,1,1;t0,3,1,1;t0,1,1,1;");
        check.due("wider than the rack: place(0, 0)", x.place(0, 0), NONE);
        check.due("wider than the rack: place(0, 1)", x.place(0, 1), NONE);
        check.due("as wide as the rack: place(1, 0)", x.place(1, 0), 0);
        x.putIn(1, 0, 0);
        check.due("a full rack: place(2, 0)", x.place(2, 0), NONE);
        check.due("a full rack: place(2, 1)", x.place(2, 1), NONE);
        check.due("the one that fills it: place(1, 0)", x.place(1, 0), 0);
        check.due("the one that fills it: place(1, 1)", x.place(1, 1), 1);
    }

    private static void placeOfSeveral() {
        check.edge("the first SLOT, then LEFT turned ahead of right .. of several the first (2 times the SLOT and how it is turned)");
        PlatesLookingIn x = Check.laid("n3,1;t0,1,1,1;w9;");
        check.due("all alike: place(0, 0)", x.place(0, 0), 0);
        x = Check.laid("n3,1;t0,1,1,5;w5;");
        check.due("in slot 0 it must look in: place(0, 0)", x.place(0, 0), 1);
        x = Check.laid("n3,0;t0,1,1,5;w5;");
        check.due("over: place(0, 0)", x.place(0, 0), 0);
        x = Check.laid("n3,1;t0,1,1,5;t0,1,1,1;p1,0,1;w5;");
        check.due("over, slot 0 is taken: place(0, 0)", x.place(0, 0), 2);
        x = Check.laid("n14,0;t1,1,1,1;t0,4,1,1;t0,4,1,1;t0,4,1,1;t0,1,1,1;p1,0,0;p2,4,0;p3,8,0;p4,12,0;");
        check.due("the last slot, right of the jet: place(0, 0)", x.place(0, 0), 26);
        x = Check.laid("n14,13;t1,1,1,1;t0,4,1,1;t0,4,1,1;t0,4,1,1;t0,1,1,1;p1,0,0;p2,4,0;p3,8,0;p4,13,0;");
        check.due("the last but one, left of the jet: place(0, 0)", x.place(0, 0), 25);
        x = Check.laid("n3,1;t0,1,1,9;w1;");
        check.due("nowhere clean: place(0, 0)", x.place(0, 0), 0);
        check.due("nowhere clean: place(0, 1)", x.place(0, 1), 0);
    }

    private static void placeInOrOut() {
        check.edge("PLACE for one that is in or out .. standing there (not where it does)");
        // It is too high only where it stands: from slot 2 on it shadows thing 1.
        PlatesLookingIn x = Check.laid("n5,4;t0,1,9,1;t0,1,1,5;p0,2,1;p1,1,1;w5;");
        check.due("clean() as it stands", x.clean(), 1);
        check.due("place(0, 0)", x.place(0, 0), 0);
        check.due("place(0, 1)", x.place(0, 1), 2);
        check.due("it stands where it did: thing(0, 4)", x.thing(0, 4), 2);
        check.due("no act: count(8)", x.count(8), 0);
        x.takeOut(0);
        check.due("out: place(0, 0)", x.place(0, 0), 0);
        check.due("out: place(0, 1)", x.place(0, 1), 2);
        // Its own slots are free for it: it moves by one.
        x = Check.laid("n4,0;t1,3,1,5;p0,1,1;w5;");
        check.due("over its own slots: place(0, 0)", x.place(0, 0), 0);
        // Where it stands is one of the places.
        x = Check.laid("n3,2;t1,3,1,5;p0,0,1;w5;");
        check.due("there alone: place(0, 0)", x.place(0, 0), 0);
        check.due("there alone: place(0, 1)", x.place(0, 1), 1);
    }

    private static void placeCountsAll() {
        check.edge("most THINGS of the RACK are CLEAN, itself too");
        // Clean itself nowhere; left of the jet it strikes what is right, and the other way round.
        PlatesLookingIn x = Check.laid("n5,2;t3,1,9,1;t0,1,9,1;t0,1,9,1;t0,1,9,1;p1,3,0;p2,4,0;p3,1,1;w9;");
        check.due("slot 0 strikes two, slot 2 all: place(0, 0)", x.place(0, 0), 0);
        check.due("slot 0 strikes two, slot 2 all: place(0, 1)", x.place(0, 1), 1);
        x.wash(1);
        check.due("in slot 3 it strikes one as well: place(0, 0)", x.place(0, 0), 0);
        x.wash(2);
        check.due("slot 0 strikes none: place(0, 0)", x.place(0, 0), 0);
        check.due("slot 0 strikes none: place(0, 1)", x.place(0, 1), 1);
        x = Check.laid("n3,1;t0,1,1,1;t0,1,1,1;t0,1,1,1;p1,0,1;p2,1,1;");
        check.due("all three: place(0, 1)", x.place(0, 1), 3);
        x.wash(1);
        check.due("the washed one does not count: place(0, 1)", x.place(0, 1), 2);
    }

    private static void byHandRefused() {
        check.edge("BY HAND: which (what = 0), how many (1). NONE; BAD.");
        PlatesLookingIn x = new PlatesLookingIn();
        PlatesLookingIn y = Check.laid("t0,1,1,1;");
        for (int what : NO_BITS) {
            check.due("byHand(" + what + ")", x.byHand(what), BAD);
            check.due("BAD ahead of NONE: byHand(" + what + ")", y.byHand(what), BAD);
        }
        check.due("an empty rack: byHand(0)", y.byHand(0), NONE);
        check.due("an empty rack: byHand(1)", y.byHand(1), NONE);
    }

    private static void byHandNone() {
        check.edge("BY HAND: the THING of the RACK that is not CLEAN .. none");
        PlatesLookingIn x = Check.laid("n3,1;t0,1,1,1;t0,1,1,9;p0,0,1;");
        check.due("all of the rack are clean: byHand(0)", x.byHand(0), NONE);
        check.due("all of the rack are clean: byHand(1)", x.byHand(1), NONE);
        x.putIn(1, 2, 0);
        check.due("one is not: byHand(0)", x.byHand(0), 1);
        check.due("one is not: byHand(1)", x.byHand(1), 1);
        check.due("it is only asked: count(6)", x.count(6), 0);
        x.wash(1);
        check.due("washed: byHand(0)", x.byHand(0), NONE);
    }

    private static void byHandOfSeveral() {
        check.edge("without which most of the others are, of several the first");
        PlatesLookingIn x = Check.laid("n3,1;t0,1,1,9;t0,1,1,9;t0,1,1,9;p0,0,1;p1,1,1;p2,2,0;w1;");
        check.due("none of the others: byHand(0)", x.byHand(0), 0);
        check.due("none of the others: byHand(1)", x.byHand(1), 0);
        x = Check.laid("n5,0;t2,1,1,1;t2,1,1,1;t2,1,1,1;p0,1,0;p1,2,0;p2,3,0;w9;");
        check.due("the middle spoon of three: byHand(0)", x.byHand(0), 1);
        check.due("the middle spoon of three: byHand(1)", x.byHand(1), 2);
        x.takeOut(2);
        check.due("either of two spoons: byHand(0)", x.byHand(0), 0);
        check.due("either of two spoons: byHand(1)", x.byHand(1), 1);
    }

    private static void byHandWithoutIt() {
        check.edge("the THING of the RACK that is not CLEAN without which most of the others are");
        // Without 1, which is clean, thing 0 would be; but it is clean itself.
        PlatesLookingIn x = Check.laid("n3,2;t0,1,1,5;t0,1,9,1;t0,1,1,9;p0,0,1;p1,1,1;w5;");
        check.due("one that is clean is not asked for: byHand(0)", x.byHand(0), 0);
        check.due("one that is clean is not asked for: byHand(1)", x.byHand(1), 1);
        x = Check.laid("n5,2;t0,1,1,1;t3,1,9,1;t0,1,1,1;p0,0,1;p1,2,1;p2,4,0;w5;");
        check.due("the ladle that strikes: byHand(0)", x.byHand(0), 1);
        check.due("the ladle that strikes: byHand(1)", x.byHand(1), 2);
    }

    private static void orderNumbers() {
        check.edge("IN ORDER: how many (k = -1), the k-th (NONE: there are not so many). BAD.");
        PlatesLookingIn x = Check.laid("n3,1;t0,1,1,1;t0,1,1,1;t0,1,1,1;");
        check.due("order(MIN)", x.order(Check.LOWEST), BAD);
        check.due("order(-3)", x.order(-3), BAD);
        check.due("order(-2)", x.order(-2), BAD);
        check.due("order(-1)", x.order(-1), 3);
        for (int k = 0; k < 3; k++) {
            check.due("order(" + k + ")", x.order(k), k);
        }
        int[] behind = {3, 4, 6, 7, 8, 100, Check.HIGHEST};
        for (int k : behind) {
            check.due("order(" + k + ")", x.order(k), NONE);
        }
        x = Check.laid("n7,6;" + "t0,1,1,1;".repeat(7));
        check.due("seven: order(-1)", x.order(-1), 7);
        check.due("seven: order(6)", x.order(6), 6);
        check.due("seven: order(7)", x.order(7), NONE);
    }

    private static void orderOfNone() {
        check.edge("IN ORDER: how many: none is CLEAN, none is left");
        PlatesLookingIn x = Check.laid("n3,1;t0,1,1,9;t0,1,1,9;w1;");
        check.due("none is clean: order(-1)", x.order(-1), 0);
        check.due("none is clean: order(0)", x.order(0), 0);
        check.due("none is clean: order(1)", x.order(1), 1);
        x.wash(0);
        x.wash(1);
        check.due("all are washed: order(-1)", x.order(-1), 0);
        check.due("all are washed: order(0)", x.order(0), NONE);
        check.due("all are washed: ways(0)", x.ways(0), 0);
        check.due("all are washed: ways(1)", x.ways(1), 0);
        x = Check.laid("n3,1;t0,4,1,1;t0,4,1,1;");
        check.due("none has room: order(-1)", x.order(-1), 0);
        check.due("none has room: order(1)", x.order(1), 1);
        check.due("none has room: order(2)", x.order(2), NONE);
        check.due("none has room: ways(0)", x.ways(0), 0);
        check.due("none has room: ways(1)", x.ways(1), 0);
    }

    private static void orderNotOfWashed() {
        check.edge("an order of all THINGS (not those washed)");
        PlatesLookingIn x = Check.laid("n7,6;" + "t0,1,1,1;".repeat(7));
        check.due("none washed: order(-1)", x.order(-1), 7);
        check.due("none washed: ways(0)", x.ways(0), 7);
        check.due("none washed: ways(1)", x.ways(1), 7);
        x.wash(0);
        x.wash(3);
        x.wash(6);
        check.due("order(-1)", x.order(-1), 4);
        int[] left = {1, 2, 4, 5, NONE, NONE, NONE};
        for (int k = 0; k < left.length; k++) {
            check.due("order(" + k + ")", x.order(k), left[k]);
        }
        check.due("ways(0)", x.ways(0), 4);
        check.due("ways(1)", x.ways(1), 4);
        x.undo();
        check.due("washed no more: order(4)", x.order(4), 6);
        check.due("washed no more: ways(0)", x.ways(0), 5);
        x.undo();
        x.undo();
        check.due("none is washed any more: order(-1)", x.order(-1), 7);
        check.due("none is washed any more: order(6)", x.order(6), 6);
    }

    private static void orderOfTheEmptyRack() {
        check.edge("from SLOT 0 on, the RACK being empty");
        PlatesLookingIn x = Check.laid("n3,1;t0,3,1,1;t0,1,9,9;p1,1,0;w5;");
        check.due("what is in is not in the way: order(-1)", x.order(-1), 1);
        check.due("what is in is not in the way: ways(0)", x.ways(0), 1);
        check.due("the rack is as it was: thing(1, 4)", x.thing(1, 4), 1);
        check.due("the rack is as it was: thing(0, 4)", x.thing(0, 4), NONE);
        check.due("no act: count(8)", x.count(8), 0);
        // From slot 0 on: both are left of the jet, the higher one shadows the lower one.
        x = Check.laid("n6,5;t0,1,1,5;t0,1,9,5;w5;");
        check.due("0, 1: ways(0)", x.ways(0), 1);
        check.due("1, 0: ways(1)", x.ways(1), 2);
    }

    private static void orderWaits() {
        check.edge("one for which there is no room to the end waits, the next is put in its place");
        PlatesLookingIn x = Check.laid("n5,0;t0,3,1,1;t0,3,1,1;t0,2,1,1;");
        check.due("3, then 3 waits, then 2: ways(0)", x.ways(0), 2);
        check.due("3, then 3 waits, then 2: order(-1)", x.order(-1), 2);
        check.due("the one that waits is in the order: order(1)", x.order(1), 1);
        x = Check.laid("n3,0;t0,4,1,1;t0,4,1,1;t0,3,1,1;");
        check.due("the first two wait: ways(0)", x.ways(0), 1);
        check.due("the first two wait: ways(1)", x.ways(1), 1);
        check.due("the first two wait: order(0)", x.order(0), 0);
        check.due("the first two wait: order(2)", x.order(2), 2);
        x = Check.laid("n4,0;t0,3,1,1;t0,2,1,1;t0,2,1,1;t0,1,1,1;");
        check.due("3, two wait, 1: ways(0)", x.ways(0), 2);
        check.due("2, 2 are as many: order(-1)", x.order(-1), 2);
        check.due("of several the first: order(0)", x.order(0), 0);
    }

    private static void orderToTheEnd() {
        check.edge("each is put where the one ahead of it ends");
        PlatesLookingIn x = Check.laid("n14,0;t0,4,1,1;t0,4,1,1;t0,4,1,1;t0,2,1,1;t0,1,1,1;");
        check.due("4, 4, 4, 2 fill 14: ways(0)", x.ways(0), 4);
        check.due("4, 4, 4, 1 as well: order(-1)", x.order(-1), 4);
        x = Check.laid("n13,0;t0,4,1,1;t0,4,1,1;t0,4,1,1;t0,2,1,1;t0,1,1,1;");
        check.due("4, 4, 4, the 2 waits, 1: ways(0)", x.ways(0), 4);
        // One behind the other: two spoons touch, with a plate between they do not.
        x = Check.laid("n6,5;t2,1,1,1;t2,1,1,1;t0,1,1,1;w9;");
        check.due("spoons touch: ways(0)", x.ways(0), 1);
        check.due("a plate between: order(-1)", x.order(-1), 3);
        int[] order = {0, 2, 1};
        for (int k = 0; k < 3; k++) {
            check.due("a plate between: order(" + k + ")", x.order(k), order[k]);
        }
    }

    private static void orderLooksIn() {
        check.edge("so that it LOOKS IN (OVER: turned left)");
        PlatesLookingIn x = Check.laid("n3,1;t0,1,1,5;t0,1,1,5;t0,1,1,5;w5;");
        check.due("left, over, right, all plates: ways(0)", x.ways(0), 3);
        x = Check.laid("n3,1;t1,1,1,5;t1,1,1,5;t1,1,1,5;w5;");
        check.due("left, over, right, all bowls: ways(1)", x.ways(1), 3);
        check.due("left, over, right, all bowls: order(-1)", x.order(-1), 3);
    }

    private static void orderMost() {
        check.edge("Of all orders that by which most are CLEAN");
        // Over the jet the high one shadows the low one; behind it, it does not.
        PlatesLookingIn x = Check.laid("n3,0;t0,1,9,5;t0,1,1,5;w5;");
        check.due("order(-1)", x.order(-1), 2);
        check.due("order(0)", x.order(0), 1);
        check.due("order(1)", x.order(1), 0);
        x.water(4);
        check.due("weaker water: order(-1)", x.order(-1), 0);
        check.due("weaker water: order(0)", x.order(0), 0);
        x.water(6);
        check.due("stronger water: order(0)", x.order(0), 0);
        // The last order of all is the only one: each is lower than the one ahead of it.
        x = Check.laid("n8,0;t0,1,9,5;t0,1,8,5;t0,1,7,5;t0,1,6,5;t0,1,5,5;t0,1,4,5;t0,1,3,5;w5;");
        check.due("the last of all orders: order(-1)", x.order(-1), 7);
        for (int k = 0; k < 7; k++) {
            check.due("the last of all orders: order(" + k + ")", x.order(k), 6 - k);
        }
    }

    private static void orderOfSeveral() {
        check.edge("of several the first (by who is first, the lowest, ..)");
        PlatesLookingIn x = Check.laid("n7,6;" + "t0,1,1,1;".repeat(7));
        for (int k = 0; k < 7; k++) {
            check.due("all orders alike: order(" + k + ")", x.order(k), k);
        }
        // Thing 0 waits wherever it comes, so it comes first.
        x = Check.laid("n3,0;t0,4,1,1;t0,1,9,5;t0,1,1,5;w5;");
        int[] order = {0, 2, 1};
        for (int k = 0; k < 3; k++) {
            check.due("one that waits ahead: order(" + k + ")", x.order(k), order[k]);
        }
    }

    private static void ways() {
        check.edge("WAYS: his (who = 0), hers (1). BAD.");
        PlatesLookingIn x = new PlatesLookingIn();
        for (int who : NO_BITS) {
            check.due("ways(" + who + ")", x.ways(who), BAD);
        }
        check.due("ways(0)", x.ways(0), 1);
        check.due("ways(1)", x.ways(1), 3);
        check.due("the rack is as it was: count(5)", x.count(5), 5);
        x.water(1);
        check.due("weaker water: ways(0)", x.ways(0), 0);
    }

    private static void waysByHeight() {
        check.edge("by height, the highest first, of several the lowest (hers)");
        // Heights 1 and 9: the highest is put first though its number is the last.
        PlatesLookingIn x = Check.laid("n3,0;t0,3,1,1;t0,3,9,9;w5;");
        check.due("9 high, then no room: ways(1)", x.ways(1), 0);
        check.due("1 high, then no room: ways(0)", x.ways(0), 1);
        // As high: the lowest number first, the other one has no room.
        x = Check.laid("n3,0;t0,3,5,1;t0,3,5,9;w5;");
        check.due("as high, number 0 is clean: ways(1)", x.ways(1), 1);
        x = Check.laid("n3,0;t0,3,5,9;t0,3,5,1;w5;");
        check.due("as high, number 0 is not: ways(1)", x.ways(1), 0);
    }

    private static void weakest() {
        check.edge("WEAKEST: the least WATER (1 to 9) by which all of the RACK come CLEAN");
        for (int dirt = 1; dirt <= 9; dirt++) {
            PlatesLookingIn x = Check.laid("n3,1;t0,1,1," + dirt + ";t0,1,1,1;p0,0,1;p1,2,0;w1;");
            check.due("dirt " + dirt + ", it looks in", x.weakest(), dirt);
            x.turn(0);
            check.due("dirt " + dirt + ", it looks out", x.weakest(), dirt == 9 ? NONE : dirt + 1);
            check.due("the water is as it was: count(4)", x.count(4), 1);
        }
        PlatesLookingIn x = Check.laid("n3,1;t0,1,1,2;t0,1,1,8;p0,0,1;w9;");
        check.due("the one that is out does not count", x.weakest(), 2);
    }

    private static void weakestNone() {
        check.edge("none (or the RACK is empty)");
        PlatesLookingIn x = Check.laid("n3,1;t1,1,1,1;t0,1,1,1;");
        check.due("an empty rack", x.weakest(), NONE);
        x.putIn(0, 0, 0);
        check.due("a bowl full of water", x.weakest(), NONE);
        x.putIn(1, 2, 0);
        check.due("a bowl full of water, and a plate", x.weakest(), NONE);
        x.takeOut(0);
        check.due("the plate alone", x.weakest(), 1);
        x.wash(1);
        check.due("all are washed or out", x.weakest(), NONE);
    }
}
