/** Section 1, "Terms" and promises 1 to 7: each of their sentences that names an edge. */
public final class TextEdgesTest {
    private static final int NONE = Check.NONE, BAD = Check.BAD, NO = Check.NO, FULL = Check.FULL;
    private static final String ONE = "t0,1,1,1;";
    private static final Check check = new Check();

    public static void main(String[] args) {
        atMostTwoHundred();
        aLetterFirst();
        oneOrTwoFigures();
        partedAndEnded();
        asManyNumbersAsTold();
        slots();
        jet();
        nothingAheadOfSlots();
        slotsWithout();
        kinds();
        widths();
        heights();
        dirts();
        sevenThings();
        toldAhead();
        placeSlots();
        placeTurned();
        placeRoom();
        placeOnce();
        arm();
        water();
        costs();
        firstFault();
        newObject();
        write();
        wipe();
        fault();
        layRefused();
        layEmptiesTheRest();
        thing();
        thingOut();
        slot();
        check.end();
    }

    private static String places(int many) {
        StringBuilder text = new StringBuilder();
        for (int t = 0; t < many; t++) {
            text.append("p" + t + "," + t + ",0;");
        }
        return text.toString();
    }

    private static void atMostTwoHundred() {
        check.edge("A TEXT is letters (200 at most)");
        String head = "n14,13;" + ONE.repeat(7) + places(7) + "c10,11;".repeat(11);
        check.due("the text's own length", head.length(), 196);
        PlatesLookingIn x = new PlatesLookingIn();
        Check.writeAll(x, head + "a05;");
        check.due("count(10)", x.count(10), 200);
        check.due("fault() of 200 letters", x.fault(), NONE);
        check.due("write() of letter 201", x.write(';'), FULL);
        check.due("lay() of 200 letters", x.lay(), 7);
        check.due("the last item counts", x.count(3), 5);
        check.dueFault(head + "a05", 196);
        check.dueFault(head + "a10;", 196);
        check.dueFault(head + "a005", 196);
        x = new PlatesLookingIn();
        Check.writeAll(x, head + "a005;");
        check.due("letter 201 is not there: count(10)", x.count(10), 200);
        check.due("letter 201 is not there: fault()", x.fault(), 196);
    }

    private static void aLetterFirst() {
        check.edge("ITEMS one behind the other, each a letter");
        check.dueFault("5;", 0);
        check.dueFault(";", 0);
        check.dueFault(",", 0);
        check.dueFault(" a5;", 0);
        check.dueFault("a5; w5;", 3);
        check.dueFault("a5;;w5;", 3);
        check.dueFault("aa5;", 0);
        check.dueFault("A5;", 0);
        check.dueFault("b5;", 0);
        check.dueFault("~5;", 0);
        for (char letter = 'a'; letter <= 'z'; letter++) {
            check.dueFault(letter + "9;", letter == 'a' || letter == 'w' ? NONE : 0);
        }
    }

    private static void oneOrTwoFigures() {
        check.edge("then numbers (one or two figures)");
        check.dueFault("a9;", NONE);
        check.dueFault("a09;", NONE);
        check.dueFault("a009;", 0);
        check.dueFault("a;", 0);
        check.dueFault("n014,3;", 0);
        check.dueFault("n14,003;", 0);
        check.dueFault("n14,;", 0);
        check.dueFault("n,3;", 0);
        check.dueFault("t00,01,01,01;", NONE);
        check.dueFault("t0,1,1,001;", 0);
        check.dueFault("a-1;", 0);
        check.dueFault("a+1;", 0);
        check.dueFault("a1.;", 0);
        check.dueFault("a 1;", 0);
        check.dueFault("a1 ;", 0);
        check.dueFault("a/;", 0);
        check.dueFault("a:;", 0);
        check.dueFault("a4294967297;", 0);
    }

    private static void partedAndEnded() {
        check.edge("parted by , and a ; behind the last one");
        check.dueFault("c1,1;", NONE);
        check.dueFault("c1,1", 0);
        check.dueFault("c1,1,", 0);
        check.dueFault("c1,1,;", 0);
        check.dueFault("c1,,1;", 0);
        check.dueFault("c,1,1;", 0);
        check.dueFault("c1;1;", 0);
        check.dueFault("c1.1;", 0);
        check.dueFault("c", 0);
        check.dueFault("c1", 0);
        check.dueFault("c1,", 0);
        check.dueFault("a5;c1,1", 3);
        check.dueFault("a5;c1,1a5;", 3);
    }

    private static void asManyNumbersAsTold() {
        check.edge("nN,J .. tK,W,H,D .. pT,S,F .. aA .. wP .. cH,C: so many numbers");
        check.dueFault("n3;", 0);
        check.dueFault("n3,0,0;", 0);
        check.dueFault("t0,1,1;", 0);
        check.dueFault("t0,1,1,1,1;", 0);
        check.dueFault("t0,1,1,1,1,1,1,1,1;", 0);
        check.dueFault(ONE + "p0,0;", 9);
        check.dueFault(ONE + "p0,0,0,0;", 9);
        check.dueFault("a1,1;", 0);
        check.dueFault("w1,1;", 0);
        check.dueFault("c1;", 0);
        check.dueFault("c1,1,1;", 0);
    }

    private static void slots() {
        check.edge("there are N (3 to 14) SLOTS");
        check.dueFault("n0,0;", 0);
        check.dueFault("n2,0;", 0);
        check.dueFault("n3,0;", NONE);
        check.dueFault("n14,0;", NONE);
        check.dueFault("n15,0;", 0);
        check.dueFault("n99,0;", 0);
        check.due("3: count(1)", Check.laid("n3,0;" + ONE).count(1), 3);
        check.due("14: count(1)", Check.laid("n14,0;" + ONE).count(1), 14);
    }

    private static void jet() {
        check.edge("J such as there is");
        check.dueFault("n3,2;", NONE);
        check.dueFault("n3,3;", 0);
        check.dueFault("n14,13;", NONE);
        check.dueFault("n14,14;", 0);
        check.dueFault("n14,99;", 0);
        check.due("the first slot: count(2)", Check.laid("n3,0;" + ONE).count(2), 0);
        check.due("the last slot: count(2)", Check.laid("n14,13;" + ONE).count(2), 13);
    }

    private static void nothingAheadOfSlots() {
        check.edge("no other ITEM ahead of it but n");
        check.dueFault("t0,1,1,1;n3,0;", 9);
        check.dueFault(ONE + "p0,0,0;n3,0;", 16);
        check.dueFault("a6;n12,5;", 3);
        check.dueFault("w5;n12,5;", 3);
        check.dueFault("c0,10;n12,5;", 6);
        check.dueFault("n3,0;a6;n3,0;", 8);
        check.dueFault("n3,0;n14,13;n4,3;", NONE);
        check.dueFault("n3,0;n2,0;", 5);
        PlatesLookingIn x = Check.laid("n14,13;n4,3;" + ONE);
        check.due("n behind n: count(1)", x.count(1), 4);
        check.due("n behind n: count(2)", x.count(2), 3);
    }

    private static void slotsWithout() {
        check.edge("12, 5 without");
        PlatesLookingIn x = Check.laid(ONE);
        check.due("count(1)", x.count(1), 12);
        check.due("count(2)", x.count(2), 5);
        check.due("slot(11)", x.slot(11), NONE);
        check.due("slot(12)", x.slot(12), BAD);
        check.dueFault(ONE + "p0,11,0;", NONE);
        check.dueFault(ONE + "p0,12,0;", 9);
        check.due("a text with n, then one without: count(1)", laidTwice("n3,0;" + ONE, ONE).count(1), 12);
        check.due("a text with n, then one without: count(2)", laidTwice("n3,0;" + ONE, ONE).count(2), 5);
    }

    /** What the first text told must not be left behind for the second. */
    private static PlatesLookingIn laidTwice(String first, String second) {
        PlatesLookingIn x = Check.laid(first);
        Check.writeAll(x, second);
        x.lay();
        return x;
    }

    private static void kinds() {
        check.edge("a THING of KIND K (0 PLATE, 1 BOWL, 2 SPOON, 3 LADLE)");
        for (int kind = 0; kind <= 3; kind++) {
            check.dueFault("t" + kind + ",1,1,1;", NONE);
            check.due("thing(0, 0)", Check.laid("t" + kind + ",1,1,1;").thing(0, 0), kind);
        }
        check.dueFault("t4,1,1,1;", 0);
        check.dueFault("t99,1,1,1;", 0);
    }

    private static void widths() {
        check.edge("W (1 to 4) SLOTS wide");
        check.dueFault("t0,0,1,1;", 0);
        check.dueFault("t0,1,1,1;", NONE);
        check.dueFault("t0,4,1,1;", NONE);
        check.dueFault("t0,5,1,1;", 0);
        check.dueFault("t0,99,1,1;", 0);
        check.dueFault("n3,0;t0,4,1,1;", NONE);
        check.due("thing(0, 1)", Check.laid("t0,4,1,1;").thing(0, 1), 4);
    }

    private static void heights() {
        check.edge("H (1 to 9) high");
        check.dueFault("t0,1,0,1;", 0);
        check.dueFault("t0,1,1,1;", NONE);
        check.dueFault("t0,1,9,1;", NONE);
        check.dueFault("t0,1,10,1;", 0);
        check.due("thing(0, 2)", Check.laid("t0,1,9,1;").thing(0, 2), 9);
    }

    private static void dirts() {
        check.edge("with DIRT D (1 to 9)");
        check.dueFault("t0,1,1,0;", 0);
        check.dueFault("t0,1,1,1;", NONE);
        check.dueFault("t0,1,1,9;", NONE);
        check.dueFault("t0,1,1,10;", 0);
        check.due("thing(0, 3)", Check.laid("t0,1,1,9;").thing(0, 3), 9);
    }

    private static void sevenThings() {
        check.edge("7 at most, 0, 1, ..");
        check.dueFault(ONE.repeat(7), NONE);
        check.dueFault(ONE.repeat(8), 63);
        check.dueFault(ONE.repeat(7) + "a5;" + ONE, 66);
        PlatesLookingIn x = Check.laid("t0,1,1,1;t0,1,2,1;t0,1,3,1;t0,1,4,1;t0,1,5,1;t0,1,6,1;t0,1,7,1;");
        for (int t = 0; t < 7; t++) {
            check.due("thing(" + t + ", 2)", x.thing(t, 2), t + 1);
        }
    }

    private static void toldAhead() {
        check.edge("THING T (told ahead) stands in SLOT S");
        check.dueFault("p0,0,0;", 0);
        check.dueFault("p0,0,0;" + ONE, 0);
        check.dueFault(ONE + "p1,0,0;" + ONE, 9);
        check.dueFault(ONE + "p1,0,0;", 9);
        check.dueFault(ONE + "p99,0,0;", 9);
        check.dueFault(ONE + "p0,0,0;" + ONE + "p1,1,0;", NONE);
        check.dueFault(ONE.repeat(7) + "p6,0,0;", NONE);
        check.dueFault(ONE.repeat(7) + "p7,0,0;", 63);
    }

    private static void placeSlots() {
        check.edge("stands in SLOT S and on");
        check.dueFault("n3,0;t0,3,1,1;p0,0,0;", NONE);
        check.dueFault("n3,0;t0,3,1,1;p0,1,0;", 14);
        check.dueFault("n3,0;t0,1,1,1;p0,2,0;", NONE);
        check.dueFault("n3,0;t0,1,1,1;p0,3,0;", 14);
        check.dueFault("n14,0;t0,4,1,1;p0,10,0;", NONE);
        check.dueFault("n14,0;t0,4,1,1;p0,11,0;", 15);
        check.dueFault("n14,0;t0,4,1,1;p0,99,0;", 15);
        PlatesLookingIn x = Check.laid("n5,0;t0,3,1,1;p0,1,0;");
        int[] owners = {NONE, 0, 0, 0, NONE};
        for (int s = 0; s < owners.length; s++) {
            check.due("slot(" + s + ")", x.slot(s), owners[s]);
        }
    }

    private static void placeTurned() {
        check.edge("turned F (0 left, 1 right)");
        check.dueFault(ONE + "p0,0,0;", NONE);
        check.dueFault(ONE + "p0,0,1;", NONE);
        check.dueFault(ONE + "p0,0,2;", 9);
        check.dueFault(ONE + "p0,0,99;", 9);
        check.due("left: thing(0, 5)", Check.laid(ONE + "p0,0,0;").thing(0, 5), 0);
        check.due("right: thing(0, 5)", Check.laid(ONE + "p0,0,1;").thing(0, 5), 1);
    }

    private static void placeRoom() {
        check.edge("where there is room");
        String wide = "n9,0;t0,3,1,1;t0,3,1,1;t0,1,1,1;p0,3,0;";
        check.dueFault(wide + "p1,0,0;", NONE);
        check.dueFault(wide + "p1,1,0;", 39);
        check.dueFault(wide + "p1,3,0;", 39);
        check.dueFault(wide + "p1,5,0;", 39);
        check.dueFault(wide + "p1,6,0;", NONE);
        check.dueFault(wide + "p1,7,0;", 39);
        check.dueFault(wide + "p2,2,0;", NONE);
        check.dueFault(wide + "p2,3,0;", 39);
        check.dueFault(wide + "p2,4,0;", 39);
        check.dueFault(wide + "p2,5,0;", 39);
        check.dueFault(wide + "p2,6,0;", NONE);
        check.dueFault("n9,0;t0,3,1,1;t0,1,1,1;p1,4,0;p0,3,0;", 30);
    }

    private static void placeOnce() {
        check.edge("once each");
        check.dueFault(ONE + "p0,0,0;p0,5,0;", 16);
        check.dueFault(ONE + "p0,0,0;p0,0,0;", 16);
        check.dueFault(ONE + ONE + "p0,0,0;p1,5,0;p0,6,0;", 32);
    }

    private static void arm() {
        check.edge("higher than A (1 to 9) (6 without; the last one)");
        check.dueFault("a0;", 0);
        check.dueFault("a1;", NONE);
        check.dueFault("a9;", NONE);
        check.dueFault("a10;", 0);
        check.due("without: count(3)", Check.laid(ONE).count(3), 6);
        check.due("the last one: count(3)", Check.laid("a9;" + ONE + "a1;").count(3), 1);
        check.due("not the one of another text: count(3)", laidTwice("a9;" + ONE, ONE).count(3), 6);
    }

    private static void water() {
        check.edge("the WATER is P (1 to 9) strong (5 without; the last one)");
        check.dueFault("w0;", 0);
        check.dueFault("w1;", NONE);
        check.dueFault("w9;", NONE);
        check.dueFault("w10;", 0);
        check.due("without: count(4)", Check.laid(ONE).count(4), 5);
        check.due("the last one: count(4)", Check.laid("w9;" + ONE + "w1;").count(4), 1);
        check.due("not the one of another text: count(4)", laidTwice("w9;" + ONE, ONE).count(4), 5);
    }

    private static void costs() {
        check.edge("current costs C (1 to 99) in HOUR H (0 to 23) (10 without; the last one of each)");
        check.dueFault("c0,1;", NONE);
        check.dueFault("c23,1;", NONE);
        check.dueFault("c24,1;", 0);
        check.dueFault("c99,1;", 0);
        check.dueFault("c0,0;", 0);
        check.dueFault("c0,99;", NONE);
        check.dueFault("c0,100;", 0);
        PlatesLookingIn x = Check.laid(ONE + "c0,99;c23,98;c0,1;c1,99;");
        check.due("the last one of 0: run(0, 1, 1)", x.run(0, 1, 1), 1);
        check.due("99: run(1, 1, 1)", x.run(1, 1, 1), 99);
        check.due("the one of 23: run(23, 1, 1)", x.run(23, 1, 1), 98);
        for (int h = 2; h < 23; h++) {
            check.due("without: run(" + h + ", 1, 1)", x.run(h, 1, 1), 10);
        }
        check.due("not that of another text", laidTwice(ONE + "c0,99;", ONE).run(0, 1, 1), 10);
    }

    private static void firstFault() {
        check.edge("FAULT: the place of the first letter of the first ITEM that is not so");
        check.dueFault("x", 0);
        check.dueFault("a5;w5;x1;a0;", 6);
        check.dueFault("a5;a0;x1;", 3);
        check.dueFault("n3,0;t0,1,1,1;p0,0,0;a5;w5;c0,1;c0,0;", 32);
        check.dueFault("t0,1,1,1;t0,1,1,0;", 9);
        check.dueFault("a".repeat(200), 0);
        check.dueFault("a5;".repeat(66) + "aa", 198);
    }

    private static void newObject() {
        check.edge("at first n12,5;t0,1,5,3; ..; THE TEXT is not there yet; nothing washed, SEEN, UNDONE, KEPT");
        PlatesLookingIn x = new PlatesLookingIn();
        check.due("count(10)", x.count(10), 0);
        check.due("wipe()", x.wipe(), 0);
        check.due("fault()", x.fault(), NONE);
        check.due("lay()", x.lay(), NO);
        check.due("undo()", x.undo(), NO);
        check.due("back()", x.back(), NO);
        check.due("forget()", x.forget(), 0);
        for (int what = 6; what <= 10; what++) {
            check.due("count(" + what + ")", x.count(what), 0);
        }
        int[] begins = {4, 6, 0, 7, 8, NONE, NONE};
        for (int t = 0; t < 7; t++) {
            check.due("thing(" + t + ", 4)", x.thing(t, 4), begins[t]);
        }
        PlatesLookingIn y = new PlatesLookingIn();
        y.takeOut(0);
        y.write('a');
        check.due("another object is not altered: thing(0, 4)", x.thing(0, 4), 4);
        check.due("another object is not altered: count(10)", x.count(10), 0);
    }

    private static void write() {
        check.edge("A letter (32 to 126, as in ASCII) comes behind THE TEXT: how long it is. BAD; FULL.");
        PlatesLookingIn x = new PlatesLookingIn();
        int[] wrong = {Check.LOWEST, -97, -1, 0, 10, 31, 127, 128, 255, 256 + 'a', 65536 + 'a', Check.HIGHEST};
        for (int letter : wrong) {
            check.due("write(" + letter + ")", x.write(letter), BAD);
        }
        check.due("write(32)", x.write(32), 1);
        check.due("write(126)", x.write(126), 2);
        for (int i = 3; i <= 200; i++) {
            check.due("letter " + i, x.write(' '), i);
        }
        check.due("letter 201", x.write(' '), FULL);
        check.due("letter 201 again", x.write(126), FULL);
        check.due("letter 201 that is BAD", x.write(31), BAD);
        check.due("letter 201 that is BAD", x.write(127), BAD);
        check.due("count(10)", x.count(10), 200);
    }

    private static void wipe() {
        check.edge("THE TEXT is empty: how long it was.");
        PlatesLookingIn x = new PlatesLookingIn();
        check.due("wipe() of none", x.wipe(), 0);
        x.write('a');
        check.due("wipe() of one", x.wipe(), 1);
        Check.writeAll(x, "x".repeat(200));
        check.due("fault()", x.fault(), 0);
        check.due("wipe() of 200", x.wipe(), 200);
        check.due("it is empty: count(10)", x.count(10), 0);
        check.due("it is empty: fault()", x.fault(), NONE);
        check.due("there is room again", x.write('a'), 1);
        check.due("what is laid stays: count(0)", x.count(0), 7);
    }

    private static void fault() {
        check.edge("FAULT. NONE.");
        PlatesLookingIn x = new PlatesLookingIn();
        check.due("of an empty text", x.fault(), NONE);
        int[] faults = {0, 0, NONE, 3, 3, NONE};
        String text = "a5;w6;";
        for (int i = 0; i < text.length(); i++) {
            x.write(text.charAt(i));
            check.due("behind letter " + i, x.fault(), faults[i]);
        }
        check.due("what is laid stays: count(3)", x.count(3), 7);
    }

    private static void layRefused() {
        check.edge("a TEXT without FAULT, of a THING at least (NO else");
        String[] texts = {"", "n3,0;", "n3,0;a5;w5;c0,1;", "t0,1,1,1", "t0,1,1,1;x", "t0,1,1,0;", ONE.repeat(8), "p0,0,0;"};
        for (String text : texts) {
            PlatesLookingIn x = new PlatesLookingIn();
            Check.writeAll(x, text);
            check.due("lay() of '" + text + "'", x.lay(), NO);
            check.due("what was laid stays: count(0)", x.count(0), 7);
            check.due("what was laid stays: count(1)", x.count(1), 12);
            check.due("what was laid stays: count(3)", x.count(3), 7);
            check.due("what was laid stays: count(4)", x.count(4), 6);
            check.due("what was laid stays: count(5)", x.count(5), 5);
            check.due("what was laid stays: run(0, 1, 1)", x.run(0, 1, 1), 10);
            check.due("the text stays: count(10)", x.count(10), text.length());
        }
    }

    private static void layEmptiesTheRest() {
        check.edge("LAID: how many THINGS; nothing washed, SEEN, UNDONE, KEPT.");
        PlatesLookingIn x = new PlatesLookingIn();
        x.seen(0, 1);
        x.keep();
        x.keep();
        x.wash(0);
        Check.writeAll(x, ONE + "p0,4,1;");
        check.due("lay() of one", x.lay(), 1);
        check.due("nothing washed: count(6)", x.count(6), 0);
        check.due("nothing washed: thing(0, 6)", x.thing(0, 6), 0);
        check.due("nothing seen: count(7)", x.count(7), 0);
        check.due("nothing seen: strong()", x.strong(), 1022);
        check.due("nothing undone: count(8)", x.count(8), 0);
        check.due("nothing undone: undo()", x.undo(), NO);
        check.due("nothing kept: count(9)", x.count(9), 0);
        check.due("nothing kept: back()", x.back(), NO);
        check.due("two can be kept again", x.keep() + x.keep(), 1 + 2);
        check.due("it can be seen again: seen(0, 0)", x.seen(0, 0), 1);
        check.due("as it is seen now, dirt 1: strong()", x.strong(), 0);
        check.due("order(-1)", x.order(-1), 1);
        x.wipe();
        Check.writeAll(x, ONE.repeat(7));
        check.due("lay() of seven", x.lay(), 7);
        check.due("none is in: count(5)", x.count(5), 0);
        check.due("the order is the new one's: order(-1)", x.order(-1), 7);
    }

    private static void thing() {
        check.edge("Of a THING: KIND (what = 0) .. 1 if it is washed (6). BAD.");
        PlatesLookingIn x = new PlatesLookingIn();
        int[] none = {Check.LOWEST, -1, 7, 8, 32, Check.HIGHEST};
        for (int t : none) {
            for (int what = 0; what <= 6; what++) {
                check.due("thing(" + t + ", " + what + ")", x.thing(t, what), BAD);
            }
        }
        int[] wrong = {Check.LOWEST, -1, 7, 8, Check.HIGHEST};
        for (int what : wrong) {
            check.due("thing(0, " + what + ")", x.thing(0, what), BAD);
            check.due("thing(5, " + what + "), out", x.thing(5, what), BAD);
        }
        x = Check.laid(ONE + ONE);
        check.due("the last of two: thing(1, 0)", x.thing(1, 0), 0);
        check.due("behind the last of two: thing(2, 0)", x.thing(2, 0), BAD);
    }

    private static void thingOut() {
        check.edge("SLOT in which it begins (4; NONE: it is out), how it is turned (5; NONE)");
        PlatesLookingIn x = new PlatesLookingIn();
        check.due("out: thing(5, 4)", x.thing(5, 4), NONE);
        check.due("out: thing(5, 5)", x.thing(5, 5), NONE);
        check.due("out: thing(5, 2)", x.thing(5, 2), 8);
        check.due("in slot 0: thing(2, 4)", x.thing(2, 4), 0);
        x.takeOut(2);
        check.due("taken out: thing(2, 4)", x.thing(2, 4), NONE);
        check.due("taken out: thing(2, 5)", x.thing(2, 5), NONE);
        check.due("taken out is not washed: thing(2, 6)", x.thing(2, 6), 0);
        x.wash(0);
        check.due("washed: thing(0, 4)", x.thing(0, 4), NONE);
        check.due("washed: thing(0, 5)", x.thing(0, 5), NONE);
        check.due("washed: thing(0, 6)", x.thing(0, 6), 1);
        x.putIn(2, 1, 0);
        check.due("in anew: thing(2, 4)", x.thing(2, 4), 1);
        check.due("in anew: thing(2, 5)", x.thing(2, 5), 0);
    }

    private static void slot() {
        check.edge("Whose a SLOT is. NONE; BAD.");
        PlatesLookingIn x = Check.laid("n3,0;" + ONE + ONE + "p1,2,0;p0,0,0;");
        int[] owners = {0, NONE, 1};
        for (int s = 0; s < 3; s++) {
            check.due("slot(" + s + ")", x.slot(s), owners[s]);
        }
        int[] none = {Check.LOWEST, -1, 3, 14, Check.HIGHEST};
        for (int s : none) {
            check.due("slot(" + s + ")", x.slot(s), BAD);
        }
        x = Check.laid("n14,0;" + ONE + "p0,13,0;");
        check.due("slot(13)", x.slot(13), 0);
        check.due("slot(12)", x.slot(12), NONE);
        check.due("slot(14)", x.slot(14), BAD);
    }
}
