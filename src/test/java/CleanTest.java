/** Promises 14 to 17: stands, clean, pooled, room. */
public final class CleanTest {
    private static final Check check = new Check();

    public static void main(String[] args) {
        wrongNumbers();
        looksIn();
        shadows();
        shadowOfTheOneOver();
        platesLookingOut();
        bowls();
        spoonsTouch();
        ladleStrikesAside();
        ladleStrikesOver();
        room();
        check.end();
    }

    private static void wrongNumbers() {
        PlatesLookingIn x = new PlatesLookingIn();
        check.due("stands(7, 0)", x.stands(7, 0), Check.BAD);
        check.due("stands(-1, 0)", x.stands(-1, 0), Check.BAD);
        check.due("stands(0, 4)", x.stands(0, 4), Check.BAD);
        check.due("stands(0, -1)", x.stands(0, -1), Check.BAD);
        check.due("stands(5, 4), out", x.stands(5, 4), Check.BAD);
        check.due("stands(5, 3), out", x.stands(5, 3), Check.NO);
        x.wash(0);
        check.due("stands(0, 3), washed", x.stands(0, 3), Check.NO);
        check.due("clean() without the washed", x.clean() & 1, 0);
    }

    private static void looksIn() {
        PlatesLookingIn x = Check.laid("n5,2;t0,2,1,1;t0,1,1,1;t0,2,1,1;p0,0,0;p1,2,0;p2,3,0;");
        check.due("left, turned left", x.stands(0, 1), 0);
        check.due("over, turned left", x.stands(1, 1), 1);
        check.due("right, turned left", x.stands(2, 1), 1);
        x.turn(0);
        x.turn(1);
        x.turn(2);
        check.due("left, turned right", x.stands(0, 1), 1);
        check.due("over, turned right", x.stands(1, 1), 1);
        check.due("right, turned right", x.stands(2, 1), 0);
        x = Check.laid("n5,2;t0,3,1,1;p0,0,0;");
        check.due("its last slot is the jet's", x.stands(0, 1), 1);
        x = Check.laid("n5,2;t0,3,1,1;p0,2,1;");
        check.due("its first slot is the jet's", x.stands(0, 1), 1);
    }

    private static void shadows() {
        // From the left: plate 5, ladle 4, spoon 6, plate 6, plate 7; the jet; right of it a plate 9.
        PlatesLookingIn x = Check.laid("n8,5;t0,1,5,1;t3,1,4,1;t2,1,6,1;t0,1,6,1;t0,1,7,1;t0,1,9,1;"
            + "p0,0,1;p1,1,1;p2,2,1;p3,3,1;p4,4,1;p5,7,0;");
        int[] shadows = {3, 1, 2, 1, 0, 0};
        for (int t = 0; t < shadows.length; t++) {
            check.due("shadow of " + t, x.stands(t, 0), shadows[t]);
        }
        x.water(3);
        check.due("clean(), water 3", x.clean(), 62);
        x.water(4);
        check.due("clean(), water 4", x.clean(), 63);
        check.due("stands(0, 3)", x.stands(0, 3), 1);
        // Farther from the jet is no shadow.
        x.takeOut(5);
        x.putIn(5, 6, 0);
        check.due("shadow of 5", x.stands(5, 0), 0);
    }

    private static void shadowOfTheOneOver() {
        PlatesLookingIn x = Check.laid("n5,2;t0,1,5,5;t0,1,6,5;t0,1,5,5;t0,1,4,1;"
            + "p0,0,1;p1,2,1;p2,4,0;p3,3,0;w5;");
        check.due("left of the one over", x.stands(0, 0), 1);
        check.due("right of the one over", x.stands(2, 0), 1);
        check.due("the one over", x.stands(1, 0), 0);
        check.due("lower, right of the one over", x.stands(3, 0), 1);
        check.due("clean()", x.clean(), 10);
        x.water(6);
        check.due("clean(), water 6", x.clean(), 15);
        check.due("water 5 is too weak for 0", x.weakest(), 6);
    }

    private static void platesLookingOut() {
        PlatesLookingIn x = Check.laid("n5,2;t0,1,5,5;t3,1,5,5;p0,0,0;p1,4,1;w5;");
        check.due("a plate that looks out", x.stands(0, 3), 0);
        check.due("a ladle that looks out", x.stands(1, 3), 1);
        x.turn(0);
        check.due("a plate that looks in", x.stands(0, 3), 1);
        x.turn(0);
        x.water(6);
        check.due("stronger water", x.stands(0, 3), 1);
    }

    private static void bowls() {
        PlatesLookingIn x = Check.laid("n5,2;t1,1,1,1;t1,1,1,1;t0,1,1,1;t1,1,1,1;"
            + "p0,0,0;p1,4,1;p2,3,1;p3,2,1;w9;");
        check.due("pooled()", x.pooled(), 3);
        check.due("clean()", x.clean(), 12);
        x.turn(0);
        check.due("pooled(), one turned", x.pooled(), 2);
        check.due("clean(), one turned", x.clean(), 13);
        x.takeOut(1);
        check.due("pooled(), one out", x.pooled(), 0);
    }

    private static void spoonsTouch() {
        PlatesLookingIn x = Check.laid("n8,7;t2,2,3,1;t2,1,2,1;t0,1,1,1;p0,0,1;p1,2,1;p2,4,1;w9;");
        check.due("spoons side by side", x.clean(), 4);
        x.takeOut(1);
        x.putIn(1, 3, 1);
        check.due("a slot between", x.clean(), 7);
        x.takeOut(0);
        x.putIn(0, 5, 1);
        check.due("a plate between", x.clean(), 7);
        check.due("a spoon is not in a lower plate's shadow", x.stands(1, 0), 1);
    }

    private static void ladleStrikesAside() {
        String things = "n5,2;t3,1,7,1;t0,1,9,1;t0,1,9,1;t0,1,9,1;p0,0,1;p1,1,1;p2,2,0;p3,3,0;w9;";
        PlatesLookingIn x = Check.laid(things + "a7;");
        check.due("as high as the arm: strikes", x.stands(0, 2), 0);
        check.due("as high as the arm: clean()", x.clean(), 15);
        x = Check.laid(things + "a6;");
        check.due("higher: strikes", x.stands(0, 2), 1);
        check.due("a plate does not strike", x.stands(1, 2), 0);
        check.due("strikes on the left: clean()", x.clean(), 6);
        x.takeOut(0);
        x.putIn(0, 4, 0);
        check.due("strikes on the right: clean()", x.clean(), 12);
    }

    private static void ladleStrikesOver() {
        PlatesLookingIn x = Check.laid("n5,2;t3,1,7,1;t0,1,9,1;t0,1,9,1;p0,2,1;p1,1,1;p2,3,0;w9;a6;");
        check.due("strikes over: clean()", x.clean(), 0);
        x.wash(0);
        check.due("without it: clean()", x.clean(), 6);
    }

    private static void room() {
        PlatesLookingIn x = new PlatesLookingIn();
        check.due("room(7)", x.room(7), Check.BAD);
        check.due("room(-1)", x.room(-1), Check.BAD);
        check.due("room(0), in", x.room(0), Check.NO);
        check.due("room(5)", x.room(5), (1 << 9) | (1 << 10));
        x.takeOut(4);
        check.due("room(4)", x.room(4), (1 << 3) | (1 << 5) | (1 << 8) | (1 << 9) | (1 << 10) | (1 << 11));
        x.takeOut(0);
        check.due("room(6)", x.room(6), (1 << 3) | (1 << 4) | (1 << 8) | (1 << 9) | (1 << 10));
        x.wash(6);
        check.due("room(6), washed", x.room(6), Check.NO);
        x = Check.laid("n3,0;t0,4,1,1;t0,3,1,1;");
        check.due("no room", x.room(0), 0);
        check.due("room in all", x.room(1), 1);
    }
}
