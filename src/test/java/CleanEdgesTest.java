/** Section 2 and promises 14 to 17: each of their sentences that names an edge. */
public final class CleanEdgesTest {
    private static final int NONE = Check.NONE, BAD = Check.BAD, NO = Check.NO;
    private static final Check check = new Check();

    public static void main(String[] args) {
        leftOfTheJet();
        rightOfTheJet();
        jetAtTheEnds();
        looksIn();
        onItsSideAndNearer();
        thatOneThatIsOver();
        higherThanIt();
        spoonsShadow();
        ladlesShadow();
        noLessThanItsDirt();
        shadowBeyondTheWater();
        platesLookingOut();
        bowls();
        spoonsTouch();
        strikesIfHigher();
        strikesTheOtherSide();
        strikesOver();
        stands();
        clean();
        pooled();
        room();
        roomRefused();
        check.end();
    }

    /** Whether a plate of 2 slots from s on looks in: turned left 1, turned right 2, both 3. */
    private static int looking(int jet, int s) {
        PlatesLookingIn x = Check.laid("n8," + jet + ";t0,2,1,1;p0," + s + ",0;");
        int left = x.stands(0, 1);
        x.turn(0);
        return left + 2 * x.stands(0, 1);
    }

    private static void leftOfTheJet() {
        check.edge("It is LEFT of the JET if its last SLOT is less than J");
        check.due("slots 1, 2 of jet 3", looking(3, 1), 2);
        check.due("slots 2, 3 of jet 3: over", looking(3, 2), 3);
        check.due("slots 0, 1 of jet 3", looking(3, 0), 2);
    }

    private static void rightOfTheJet() {
        check.edge("RIGHT of it if its first one is more, else OVER it");
        check.due("slots 3, 4 of jet 3: over", looking(3, 3), 3);
        check.due("slots 4, 5 of jet 3", looking(3, 4), 1);
        check.due("slots 6, 7 of jet 3", looking(3, 6), 1);
    }

    private static void jetAtTheEnds() {
        check.edge("the JET is in SLOT J: the first and the last one");
        check.due("slots 0, 1 of jet 0: over", looking(0, 0), 3);
        check.due("slots 1, 2 of jet 0", looking(0, 1), 1);
        check.due("slots 6, 7 of jet 7: over", looking(7, 6), 3);
        check.due("slots 5, 6 of jet 7", looking(7, 5), 2);
    }

    private static void looksIn() {
        check.edge("It LOOKS IN, if it is OVER, or turned right and LEFT, or turned left and RIGHT");
        for (int kind = 0; kind <= 3; kind++) {
            PlatesLookingIn x = Check.laid("n3,1;" + ("t" + kind + ",1,1,1;").repeat(3) + "p0,0,0;p1,1,0;p2,2,0;");
            check.due("left, turned left: stands(0, 1)", x.stands(0, 1), 0);
            check.due("over, turned left: stands(1, 1)", x.stands(1, 1), 1);
            check.due("right, turned left: stands(2, 1)", x.stands(2, 1), 1);
            x.turn(0);
            x.turn(1);
            x.turn(2);
            check.due("left, turned right: stands(0, 1)", x.stands(0, 1), 1);
            check.due("over, turned right: stands(1, 1)", x.stands(1, 1), 1);
            check.due("right, turned right: stands(2, 1)", x.stands(2, 1), 0);
        }
    }

    private static void onItsSideAndNearer() {
        check.edge("BETWEEN it and the JET are those on its side that are nearer to the JET");
        // Low, high, low; the jet with none over it; low, high, low.
        PlatesLookingIn x = Check.laid("n7,3;t0,1,1,1;t0,1,9,1;t0,1,1,1;t0,1,1,1;t0,1,9,1;t0,1,1,1;"
            + "p0,0,1;p1,1,1;p2,2,1;p3,4,0;p4,5,0;p5,6,0;");
        int[] shadows = {1, 0, 0, 0, 0, 1};
        for (int t = 0; t < shadows.length; t++) {
            check.due("stands(" + t + ", 0)", x.stands(t, 0), shadows[t]);
        }
        x.takeOut(1);
        check.due("one that is out is in nobody's way: stands(0, 0)", x.stands(0, 0), 0);
        check.due("the other side is as it was: stands(5, 0)", x.stands(5, 0), 1);
    }

    private static void thatOneThatIsOver() {
        check.edge("and that one that is OVER (none for that one)");
        // The one over has its slots on both sides of the jet's.
        PlatesLookingIn x = Check.laid("n7,3;t0,1,5,1;t0,3,4,1;t0,1,5,1;t0,1,3,1;t0,1,3,1;"
            + "p0,1,1;p1,2,1;p2,5,0;p3,0,1;p4,6,0;");
        check.due("the one over, between higher ones: stands(1, 0)", x.stands(1, 0), 0);
        check.due("higher than the one over: stands(0, 0)", x.stands(0, 0), 0);
        check.due("higher than the one over: stands(2, 0)", x.stands(2, 0), 0);
        check.due("lower, with one more between: stands(3, 0)", x.stands(3, 0), 2);
        check.due("lower, with one more between: stands(4, 0)", x.stands(4, 0), 2);
        x.takeOut(1);
        check.due("none is over: stands(3, 0)", x.stands(3, 0), 1);
        check.due("none is over: stands(4, 0)", x.stands(4, 0), 1);
        x.takeOut(0);
        check.due("none is between: stands(3, 0)", x.stands(3, 0), 0);
    }

    /** The shadow of one of that kind and height 5 behind a plate of that height. */
    private static int shadow(int kind, int high) {
        return Check.laid("n3,2;t" + kind + ",1,5,1;t0,1," + high + ",1;p0,0,1;p1,1,1;").stands(0, 0);
    }

    /** The shadow of one of that kind and height 8, all the others being plates of height 9. */
    private static int shadowOfMany(int kind, int many) {
        StringBuilder text = new StringBuilder("n8,7;t" + kind + ",1,8,1;p0,0,1;");
        for (int t = 1; t <= many; t++) {
            text.append("t0,1,9,1;p" + t + "," + t + ",1;");
        }
        return Check.laid(text.toString()).stands(0, 0);
    }

    private static void higherThanIt() {
        check.edge("one for each that is BETWEEN and higher than it: SHADOW is how many");
        check.due("lower", shadow(0, 4), 0);
        check.due("as high", shadow(0, 5), 0);
        check.due("higher", shadow(0, 6), 1);
        check.due("a bowl, as high", shadow(1, 5), 0);
        check.due("a bowl, higher", shadow(1, 6), 1);
        for (int many = 0; many <= 6; many++) {
            check.due("of " + many, shadowOfMany(0, many), many);
            check.due("of " + many + " for a bowl", shadowOfMany(1, many), many);
        }
    }

    private static void spoonsShadow() {
        check.edge("for a SPOON, those that are as high, too");
        check.due("lower", shadow(2, 4), 0);
        check.due("as high", shadow(2, 5), 1);
        check.due("higher", shadow(2, 6), 1);
        for (int many = 0; many <= 6; many++) {
            check.due("of " + many, shadowOfMany(2, many), many);
        }
        PlatesLookingIn x = Check.laid("n3,2;t0,1,5,1;t2,1,5,1;p0,0,1;p1,1,1;");
        check.due("a plate behind a spoon that is as high", x.stands(0, 0), 0);
        x = Check.laid("n3,2;t2,1,5,1;t0,1,5,1;p0,2,1;p1,1,1;");
        check.due("a spoon over the jet", x.stands(0, 0), 0);
        check.due("a spoon alone on the left", Check.laid("n3,1;t2,1,5,1;p0,0,1;").stands(0, 0), 0);
        check.due("a spoon alone on the right", Check.laid("n3,1;t2,1,5,1;p0,2,1;").stands(0, 0), 0);
        x = Check.laid("n3,2;t2,1,5,1;t0,1,5,1;p0,0,1;p1,2,1;");
        check.due("behind one over the jet that is as high", x.stands(0, 0), 1);
    }

    private static void ladlesShadow() {
        check.edge("for a LADLE half as many, cut");
        check.due("as high", shadow(3, 5), 0);
        int[] halves = {0, 0, 1, 1, 2, 2, 3};
        for (int many = 0; many <= 6; many++) {
            check.due("half of " + many, shadowOfMany(3, many), halves[many]);
        }
    }

    private static void noLessThanItsDirt() {
        check.edge("It is CLEAN, if the WATER less its SHADOW is no less than its DIRT");
        for (int kind = 0; kind <= 3; kind++) {
            for (int dirt = 1; dirt <= 9; dirt++) {
                PlatesLookingIn x = Check.laid("n3,1;t" + kind + ",1,1," + dirt + ";p0,0,1;w" + dirt + ";");
                check.due("kind " + kind + ", dirt " + dirt + ", as strong", x.clean(), 1);
                if (dirt > 1) {
                    x.water(dirt - 1);
                    check.due("kind " + kind + ", dirt " + dirt + ", weaker", x.clean(), 0);
                }
            }
        }
        PlatesLookingIn x = Check.laid("n3,2;t0,1,1,4;t0,1,2,1;p0,0,1;p1,1,1;w5;");
        check.due("5 less 1 and 4: stands(0, 3)", x.stands(0, 3), 1);
        x.water(4);
        check.due("4 less 1 and 4: stands(0, 3)", x.stands(0, 3), 0);
    }

    private static void shadowBeyondTheWater() {
        check.edge("the WATER less its SHADOW: nothing and less");
        PlatesLookingIn x = Check.laid("n4,3;t0,1,1,1;t0,1,2,1;t0,1,3,1;p0,0,1;p1,1,1;p2,2,1;w1;");
        check.due("1 less 2, 1 less 1, 1: clean()", x.clean(), 4);
        x.water(2);
        check.due("2 less 2, 2 less 1, 2: clean()", x.clean(), 6);
        x.water(3);
        check.due("3 less 2, 3 less 1, 3: clean()", x.clean(), 7);
    }

    private static void platesLookingOut() {
        check.edge("of a PLATE that does not LOOK IN, than its DIRT and 1");
        for (int dirt = 1; dirt <= 8; dirt++) {
            PlatesLookingIn x = Check.laid("n3,1;t0,1,1," + dirt + ";p0,0,0;w" + dirt + ";");
            check.due("dirt " + dirt + ", as strong", x.clean(), 0);
            x.water(dirt + 1);
            check.due("dirt " + dirt + ", stronger by 1", x.clean(), 1);
        }
        check.due("dirt 9, water 9", Check.laid("n3,1;t0,1,1,9;p0,0,0;w9;").clean(), 0);
        check.due("dirt 9, water 9, over", Check.laid("n3,1;t0,1,1,9;p0,1,1;w9;").clean(), 1);
        check.due("a spoon that looks out", Check.laid("n3,1;t2,1,1,5;p0,0,0;w5;").clean(), 1);
        check.due("a ladle that looks out", Check.laid("n3,1;t3,1,1,5;p0,2,1;w5;").clean(), 1);
    }

    private static void bowls() {
        check.edge("a BOWL only if it LOOKS IN (else it is FULL of water)");
        PlatesLookingIn x = Check.laid("n3,1;t1,1,1,1;t1,1,1,1;t1,1,1,1;p0,0,0;p1,1,1;p2,2,1;w9;");
        check.due("clean()", x.clean(), 2);
        check.due("pooled()", x.pooled(), 5);
        x.turn(0);
        x.turn(1);
        x.turn(2);
        check.due("turned: clean()", x.clean(), 7);
        check.due("turned: pooled()", x.pooled(), 0);
        x = Check.laid("n3,1;t1,1,1,9;p0,0,1;w1;");
        check.due("not clean, but it looks in: pooled()", x.pooled(), 0);
        check.due("not clean, but it looks in: clean()", x.clean(), 0);
    }

    private static void spoonsTouch() {
        check.edge("a SPOON only if it touches no other SPOON (their SLOTS beside each other)");
        String spoons = "n9,4;t2,2,1,1;t2,3,1,1;t0,1,1,1;w9;";
        int[][] firsts = {{0, 2, 0}, {0, 3, 3}, {3, 0, 0}, {4, 0, 3}, {3, 5, 0}, {2, 5, 3}, {7, 4, 0}, {7, 3, 3}};
        for (int[] one : firsts) {
            PlatesLookingIn x = Check.laid(spoons);
            x.putIn(0, one[0], 0);
            x.putIn(1, one[1], 0);
            check.due("from slots " + one[0] + " and " + one[1] + ": clean()", x.clean(), one[2]);
        }
        PlatesLookingIn x = Check.laid(spoons + "p0,0,0;p2,2,1;");
        check.due("beside a plate: clean()", x.clean(), 5);
        x.putIn(1, 3, 0);
        check.due("a plate between: clean()", x.clean(), 7);
        x = Check.laid("n5,0;t2,1,1,1;t2,1,1,1;t2,1,1,1;p0,1,0;p1,2,0;p2,3,0;w9;");
        check.due("three: clean()", x.clean(), 0);
        x.wash(1);
        check.due("without the middle one: clean()", x.clean(), 5);
    }

    private static void strikesIfHigher() {
        check.edge("A LADLE STRIKES, if it is higher than A: it is not CLEAN then");
        for (int arm = 1; arm <= 9; arm++) {
            PlatesLookingIn x = Check.laid("n3,1;t3,1," + arm + ",1;p0,0,1;w9;a" + arm + ";");
            check.due("as high as " + arm + ": stands(0, 2)", x.stands(0, 2), 0);
            check.due("as high as " + arm + ": clean()", x.clean(), 1);
            if (arm < 9) {
                x = Check.laid("n3,1;t3,1," + (arm + 1) + ",1;p0,0,1;w9;a" + arm + ";");
                check.due("higher than " + arm + ": stands(0, 2)", x.stands(0, 2), 1);
                check.due("higher than " + arm + ": clean()", x.clean(), 0);
            }
        }
        for (int kind = 0; kind <= 2; kind++) {
            PlatesLookingIn x = Check.laid("n3,1;t" + kind + ",1,9,1;p0,0,1;w9;a1;");
            check.due("kind " + kind + " does not: stands(0, 2)", x.stands(0, 2), 0);
            check.due("kind " + kind + " does not: clean()", x.clean(), 1);
        }
    }

    /** Ladle 0 at that slot, one plate in each of the others; as high as it, so without shadows. */
    private static PlatesLookingIn ladleAt(int slot) {
        PlatesLookingIn x = Check.laid("n5,2;t3,1,9,1;t0,1,9,1;t0,1,9,1;t0,1,9,1;t0,1,9,1;w9;a8;");
        x.putIn(0, slot, 0);
        for (int t = 1; t <= 4; t++) {
            x.putIn(t, t <= slot ? t - 1 : t, 0);
        }
        return x;
    }

    private static void strikesTheOtherSide() {
        check.edge("nor are those on the other side of the JET");
        // Plates 1 to 4 stand in the four slots that are left, in that order.
        check.due("ladle in 0; plates in 1, 2, 3, 4: clean()", ladleAt(0).clean(), 0b00110);
        check.due("ladle in 1; plates in 0, 2, 3, 4: clean()", ladleAt(1).clean(), 0b00110);
        check.due("ladle in 3; plates in 0, 1, 2, 4: clean()", ladleAt(3).clean(), 0b11000);
        check.due("ladle in 4; plates in 0, 1, 2, 3: clean()", ladleAt(4).clean(), 0b11000);
        PlatesLookingIn x = Check.laid("n5,2;t3,1,9,1;t3,1,9,1;t0,1,9,1;t0,1,9,1;t0,1,9,1;"
            + "p0,0,1;p1,4,0;p2,2,0;p3,1,1;p4,3,0;w9;a8;");
        check.due("on both sides, the one over alone: clean()", x.clean(), 0b00100);
        x.takeOut(1);
        check.due("the right one taken out: clean()", x.clean(), 0b01100);
        x.undo();
        x.takeOut(0);
        check.due("the left one taken out: clean()", x.clean(), 0b10100);
    }

    private static void strikesOver() {
        check.edge("if it is OVER, none on either side");
        PlatesLookingIn x = ladleAt(2);
        check.due("clean()", x.clean(), 0);
        check.due("it strikes: stands(0, 2)", x.stands(0, 2), 1);
        check.due("a plate does not: stands(1, 2)", x.stands(1, 2), 0);
        x.takeOut(0);
        check.due("taken out: clean()", x.clean(), 0b11110);
        x = Check.laid("n5,2;t3,3,9,1;t0,1,9,1;t0,1,9,1;p0,2,0;p1,0,1;p2,1,1;w9;a8;");
        check.due("over by its first slot: clean()", x.clean(), 0);
        x = Check.laid("n5,2;t3,3,9,1;t0,1,9,1;t0,1,9,1;p0,0,0;p1,3,0;p2,4,0;w9;a8;");
        check.due("over by its last slot: clean()", x.clean(), 0);
    }

    private static void stands() {
        check.edge("SHADOW (what = 0), 1 if it LOOKS IN (1), STRIKES (2), is CLEAN (3). BAD; NO: it is out.");
        PlatesLookingIn x = Check.laid("n5,2;t0,1,5,1;t0,1,5,1;p0,0,1;");
        int[] none = {Check.LOWEST, -1, 2, 7, Check.HIGHEST};
        int[] wrong = {Check.LOWEST, -1, 4, 5, Check.HIGHEST};
        for (int what = 0; what <= 3; what++) {
            for (int t : none) {
                check.due("stands(" + t + ", " + what + ")", x.stands(t, what), BAD);
            }
            check.due("out: stands(1, " + what + ")", x.stands(1, what), NO);
        }
        for (int what : wrong) {
            check.due("stands(0, " + what + ")", x.stands(0, what), BAD);
            check.due("BAD ahead of NO: stands(1, " + what + ")", x.stands(1, what), BAD);
        }
        int[] answers = {0, 1, 0, 1};
        for (int what = 0; what <= 3; what++) {
            check.due("stands(0, " + what + ")", x.stands(0, what), answers[what]);
        }
        x.putIn(1, 2, 1);
        check.due("in: stands(1, 3)", x.stands(1, 3), 1);
        x.takeOut(0);
        check.due("taken out: stands(0, 0)", x.stands(0, 0), NO);
        x.wash(0);
        check.due("washed: stands(0, 3)", x.stands(0, 3), NO);
    }

    private static void clean() {
        check.edge("CLEAN, as bits (those of the RACK).");
        PlatesLookingIn x = Check.laid("n14,13;" + "t0,2,1,1;".repeat(7));
        check.due("an empty rack", x.clean(), 0);
        for (int t = 0; t < 7; t++) {
            x.putIn(t, 2 * t, 1);
            check.due("the first " + (t + 1), x.clean(), (1 << (t + 1)) - 1);
        }
        x.wash(6);
        check.due("without the washed one", x.clean(), 63);
        x.takeOut(0);
        check.due("without the one taken out", x.clean(), 62);
    }

    private static void pooled() {
        check.edge("FULL of water, as bits.");
        PlatesLookingIn x = Check.laid("n8,7;" + "t1,1,1,1;".repeat(7));
        check.due("an empty rack", x.pooled(), 0);
        for (int t = 0; t < 7; t++) {
            x.putIn(t, t, 0);
            check.due("the first " + (t + 1), x.pooled(), (1 << (t + 1)) - 1);
        }
        x.wash(6);
        x.takeOut(0);
        check.due("without those that are out", x.pooled(), 62);
        for (int kind = 0; kind <= 3; kind++) {
            check.due("kind " + kind, Check.laid("n3,2;t" + kind + ",1,1,1;p0,0,0;").pooled(), kind == 1 ? 1 : 0);
        }
    }

    private static void room() {
        check.edge("ROOM for a THING that is out: SLOTS (bits) in which it could begin");
        PlatesLookingIn x = Check.laid("n14,0;t0,1,1,1;t0,2,1,1;t0,3,1,1;t0,4,1,1;");
        int[] rooms = {0x3fff, 0x1fff, 0x0fff, 0x07ff};
        for (int t = 0; t < 4; t++) {
            check.due("an empty rack: room(" + t + ")", x.room(t), rooms[t]);
        }
        x.putIn(0, 4, 0);
        // Left are slots 0 to 3 and 5 to 13.
        check.due("one in slot 4: room(3)", x.room(3), 1 | 0x07e0);
        check.due("one in slot 4: room(1)", x.room(1), 0b111 | 0x1fe0);
        x = Check.laid("n3,0;t0,1,1,1;t0,2,1,1;t0,3,1,1;t0,4,1,1;");
        check.due("as wide as the rack: room(2)", x.room(2), 1);
        check.due("wider than the rack: room(3)", x.room(3), 0);
        x.putIn(0, 1, 0);
        check.due("too wide for either side: room(1)", x.room(1), 0);
        x.takeOut(0);
        x.putIn(2, 0, 0);
        check.due("a full rack: room(0)", x.room(0), 0);
    }

    private static void roomRefused() {
        check.edge("ROOM, as bits. BAD; NO: it is in, washed.");
        PlatesLookingIn x = Check.laid("n3,0;t0,1,1,1;t0,2,1,1;p0,0,0;");
        int[] none = {Check.LOWEST, -1, 2, 7, Check.HIGHEST};
        for (int t : none) {
            check.due("room(" + t + ")", x.room(t), BAD);
        }
        check.due("in: room(0)", x.room(0), NO);
        check.due("out: room(1)", x.room(1), 2);
        x.wash(1);
        check.due("washed: room(1)", x.room(1), NO);
        x.takeOut(0);
        check.due("taken out: room(0)", x.room(0), 7);
        check.due("none is in: slot(0)", x.slot(0), NONE);
    }
}
