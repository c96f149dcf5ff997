/** Promises 1 to 7: a new object, write, wipe, fault, lay, thing, slot. */
public final class RacksTest {
    private static final Check check = new Check();

    public static void main(String[] args) {
        newObject();
        writeAndWipe();
        faultsOfForm();
        faultsOfSlots();
        faultsOfThings();
        faultsOfPlaces();
        faultsOfTheRest();
        withoutAndLastOnes();
        layAnew();
        layRefused();
        things();
        slots();
        check.end();
    }

    private static void newObject() {
        PlatesLookingIn x = new PlatesLookingIn();
        int[] counts = {7, 12, 5, 7, 6, 5, 0, 0, 0, 0, 0};
        for (int what = 0; what < counts.length; what++) {
            check.due("new: count(" + what + ")", x.count(what), counts[what]);
        }
        int[][] told = {{0, 1, 5, 3, 4, 1}, {0, 1, 7, 4, 6, 0}, {1, 3, 4, 5, 0, 1}, {2, 1, 2, 2, 7, 0},
            {2, 1, 2, 6, 8, 0}, {3, 2, 8, 3, -4, -4}, {0, 2, 6, 1, -4, -4}};
        for (int t = 0; t < told.length; t++) {
            for (int what = 0; what < 6; what++) {
                check.due("new: thing(" + t + ", " + what + ")", x.thing(t, what), told[t][what]);
            }
            check.due("new: thing(" + t + ", 6)", x.thing(t, 6), 0);
        }
        for (int h = 0; h < 24; h++) {
            check.due("new: run(" + h + ", 1, 1)", x.run(h, 1, 1), h == 2 || h == 3 ? 4 : h == 7 ? 30 : 10);
        }
        check.due("new: fault()", x.fault(), Check.NONE);
        check.due("new: lay()", x.lay(), Check.NO);
    }

    private static void writeAndWipe() {
        PlatesLookingIn x = new PlatesLookingIn();
        check.due("write(31)", x.write(31), Check.BAD);
        check.due("write(127)", x.write(127), Check.BAD);
        check.due("write(-1)", x.write(-1), Check.BAD);
        check.due("write(MIN)", x.write(Integer.MIN_VALUE), Check.BAD);
        check.due("write(32)", x.write(32), 1);
        check.due("write(126)", x.write(126), 2);
        for (int i = 3; i <= 200; i++) {
            check.due("write " + i, x.write('n'), i);
        }
        check.due("write 201", x.write('n'), Check.FULL);
        check.due("write 201 of 127", x.write(127), Check.BAD);
        check.due("count(10)", x.count(10), 200);
        check.due("fault()", x.fault(), 0);
        check.due("wipe()", x.wipe(), 200);
        check.due("wipe() again", x.wipe(), 0);
        check.due("count(10)", x.count(10), 0);
        check.due("write('a')", x.write('a'), 1);
    }

    private static void faultsOfForm() {
        check.dueFault("", Check.NONE);
        check.dueFault("a5;", Check.NONE);
        check.dueFault("a05;", Check.NONE);
        check.dueFault("a005;", 0);
        check.dueFault("a5", 0);
        check.dueFault("a", 0);
        check.dueFault("a;", 0);
        check.dueFault("a,;", 0);
        check.dueFault("a5,;", 0);
        check.dueFault("a,5;", 0);
        check.dueFault("a5,5;", 0);
        check.dueFault("a 5;", 0);
        check.dueFault("a5;;", 3);
        check.dueFault("a5; ", 3);
        check.dueFault("a5;x5;", 3);
        check.dueFault("A5;", 0);
        check.dueFault("5;", 0);
        check.dueFault("t0,1,5,3;t0,1,5,3,1;", 9);
        check.dueFault("t0,1,5,3;t0,1,5;", 9);
        check.dueFault("t0,1,5,3;w5;a", 12);
        check.dueFault("t0,1,5,3;a6;t00,01,05,03;w5;", Check.NONE);
    }

    private static void faultsOfSlots() {
        check.dueFault("n3,0;", Check.NONE);
        check.dueFault("n2,0;", 0);
        check.dueFault("n14,13;", Check.NONE);
        check.dueFault("n15,0;", 0);
        check.dueFault("n14,14;", 0);
        check.dueFault("n3,2;", Check.NONE);
        check.dueFault("n3,3;", 0);
        check.dueFault("n3;", 0);
        check.dueFault("n3,0,0;", 0);
        check.dueFault("n3,0;n4,3;", Check.NONE);
        check.dueFault("n3,0;a5;n4,3;", 8);
        check.dueFault("c0,1;n4,3;", 5);
        check.dueFault("w5;n4,3;", 3);
        check.dueFault("t0,1,1,1;n4,3;", 9);
    }

    private static void faultsOfThings() {
        check.dueFault("t3,4,9,9;", Check.NONE);
        check.dueFault("t0,1,1,1;", Check.NONE);
        check.dueFault("t4,1,1,1;", 0);
        check.dueFault("t0,0,1,1;", 0);
        check.dueFault("t0,5,1,1;", 0);
        check.dueFault("t0,1,0,1;", 0);
        check.dueFault("t0,1,10,1;", 0);
        check.dueFault("t0,1,1,0;", 0);
        check.dueFault("t0,1,1,10;", 0);
        String one = "t0,1,1,1;";
        check.dueFault(one.repeat(7), Check.NONE);
        check.dueFault(one.repeat(8), 63);
    }

    private static void faultsOfPlaces() {
        String two = "n5,2;t0,2,1,1;t0,1,1,1;";
        check.dueFault(two + "p0,0,0;", Check.NONE);
        check.dueFault(two + "p0,3,1;", Check.NONE);
        check.dueFault(two + "p0,4,1;", 23);
        check.dueFault(two + "p1,4,1;", Check.NONE);
        check.dueFault(two + "p1,5,1;", 23);
        check.dueFault(two + "p2,0,1;", 23);
        check.dueFault(two + "p0,0,2;", 23);
        check.dueFault(two + "p0,0;", 23);
        check.dueFault(two + "p0,0,0;p1,2,0;", Check.NONE);
        check.dueFault(two + "p0,0,0;p1,1,0;", 30);
        check.dueFault(two + "p0,1,0;p1,0,0;", Check.NONE);
        check.dueFault(two + "p0,0,0;p0,3,0;", 30);
        check.dueFault("n5,2;p0,0,0;t0,2,1,1;", 5);
        check.dueFault("t0,1,1,1;p0,11,0;", Check.NONE);
        check.dueFault("t0,1,1,1;p0,12,0;", 9);
    }

    private static void faultsOfTheRest() {
        check.dueFault("a1;a9;", Check.NONE);
        check.dueFault("a0;", 0);
        check.dueFault("a10;", 0);
        check.dueFault("w1;w9;", Check.NONE);
        check.dueFault("w0;", 0);
        check.dueFault("w10;", 0);
        check.dueFault("c0,1;c23,99;", Check.NONE);
        check.dueFault("c24,1;", 0);
        check.dueFault("c0,0;", 0);
        check.dueFault("c0,100;", 0);
        check.dueFault("c0;", 0);
    }

    private static void withoutAndLastOnes() {
        PlatesLookingIn x = Check.laid("t0,1,1,1;");
        check.due("slots without", x.count(1), 12);
        check.due("jet without", x.count(2), 5);
        check.due("arm without", x.count(3), 6);
        check.due("water without", x.count(4), 5);
        check.due("cost without", x.run(2, 1, 1), 10);
        x = Check.laid("n3,0;n4,3;t0,1,1,1;a1;a2;w3;w4;c5,6;c5,7;c6,99;");
        check.due("slots, the last ones", x.count(1), 4);
        check.due("jet, the last one", x.count(2), 3);
        check.due("arm, the last one", x.count(3), 2);
        check.due("water, the last one", x.count(4), 4);
        check.due("cost, the last one", x.run(5, 1, 1), 7);
        check.due("cost of another hour", x.run(6, 1, 1), 99);
    }

    private static void layAnew() {
        PlatesLookingIn x = new PlatesLookingIn();
        x.wash(3);
        x.seen(0, 1);
        x.keep();
        x.water(2);
        Check.writeAll(x, "n3,1;t0,1,1,1;p0,2,1;w8;");
        check.due("lay()", x.lay(), 1);
        int[] counts = {1, 3, 1, 6, 8, 1, 0, 0, 0, 0, 24};
        for (int what = 0; what < counts.length; what++) {
            check.due("laid: count(" + what + ")", x.count(what), counts[what]);
        }
        check.due("laid: undo()", x.undo(), Check.NO);
        check.due("laid: back()", x.back(), Check.NO);
        check.due("laid: forget()", x.forget(), 0);
        check.due("laid: strong()", x.strong(), 1022);
        check.due("laid: order(-1)", x.order(-1), 1);
        x.takeOut(0);
        check.due("lay() of the same text", x.lay(), 1);
        check.due("it stands as told again", x.thing(0, 4), 2);
    }

    private static void layRefused() {
        PlatesLookingIn x = new PlatesLookingIn();
        x.wash(3);
        x.seen(0, 1);
        x.keep();
        Check.writeAll(x, "n3,1;a5;");
        check.due("lay() without a thing", x.lay(), Check.NO);
        Check.writeAll(x, "t0,1,1,1;w");
        check.due("fault()", x.fault(), 17);
        check.due("lay() with a fault", x.lay(), Check.NO);
        int[] counts = {7, 12, 5, 7, 6, 4, 1, 1, 1, 1, 18};
        for (int what = 0; what < counts.length; what++) {
            check.due("not laid: count(" + what + ")", x.count(what), counts[what]);
        }
        check.due("not laid: run(7, 1, 1)", x.run(7, 1, 1), 30);
        check.due("not laid: thing(2, 4)", x.thing(2, 4), 0);
    }

    private static void things() {
        PlatesLookingIn x = new PlatesLookingIn();
        check.due("thing(-1, 0)", x.thing(-1, 0), Check.BAD);
        check.due("thing(7, 0)", x.thing(7, 0), Check.BAD);
        check.due("thing(0, -1)", x.thing(0, -1), Check.BAD);
        check.due("thing(0, 7)", x.thing(0, 7), Check.BAD);
        check.due("thing(MAX, 0)", x.thing(Integer.MAX_VALUE, 0), Check.BAD);
        x.wash(2);
        check.due("washed: thing(2, 4)", x.thing(2, 4), Check.NONE);
        check.due("washed: thing(2, 5)", x.thing(2, 5), Check.NONE);
        check.due("washed: thing(2, 6)", x.thing(2, 6), 1);
        x.undo();
        check.due("undone: thing(2, 5)", x.thing(2, 5), 1);
        check.due("undone: thing(2, 6)", x.thing(2, 6), 0);
    }

    private static void slots() {
        PlatesLookingIn x = new PlatesLookingIn();
        int[] owners = {2, 2, 2, -4, 0, -4, 1, 3, 4, -4, -4, -4};
        for (int s = 0; s < owners.length; s++) {
            check.due("slot(" + s + ")", x.slot(s), owners[s]);
        }
        check.due("slot(12)", x.slot(12), Check.BAD);
        check.due("slot(-1)", x.slot(-1), Check.BAD);
    }
}
