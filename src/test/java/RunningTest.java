/** Promises 26 to 29: run, half, isClean, day. */
public final class RunningTest {
    private static final Check check = new Check();

    public static void main(String[] args) {
        runWrong();
        run();
        half();
        halfOfNone();
        isClean();
        isCleanAtTheEdges();
        day();
        check.end();
    }

    private static void runWrong() {
        PlatesLookingIn x = new PlatesLookingIn();
        check.due("run(24, 1, 0)", x.run(24, 1, 0), Check.BAD);
        check.due("run(-1, 1, 0)", x.run(-1, 1, 0), Check.BAD);
        check.due("run(0, 0, 0)", x.run(0, 0, 0), Check.BAD);
        check.due("run(0, 25, 0)", x.run(0, 25, 0), Check.BAD);
        check.due("run(0, 1, 2)", x.run(0, 1, 2), Check.BAD);
        check.due("run(0, 1, -1)", x.run(0, 1, -1), Check.BAD);
        check.due("run(0, MAX, 0)", x.run(0, Integer.MAX_VALUE, 0), Check.BAD);
    }

    private static void run() {
        PlatesLookingIn x = new PlatesLookingIn();
        check.due("run(0, 2, 0)", x.run(0, 2, 0), 0);
        check.due("run(0, 3, 0)", x.run(0, 3, 0), 2);
        check.due("run(0, 3, 1)", x.run(0, 3, 1), 4);
        check.due("run(3, 24, 0), from 3 on", x.run(3, 24, 0), 3);
        check.due("run(4, 24, 0), over midnight", x.run(4, 24, 0), 2);
        check.due("run(4, 22, 0), not as far as 2", x.run(4, 22, 0), 4);
        check.due("run(7, 1, 0)", x.run(7, 1, 0), 7);
        check.due("run(7, 1, 1)", x.run(7, 1, 1), 30);
        check.due("run(7, 2, 0)", x.run(7, 2, 0), 8);
        check.due("run(23, 2, 0)", x.run(23, 2, 0), 23);
    }

    private static void half() {
        PlatesLookingIn x = new PlatesLookingIn();
        check.due("half(24, 1)", x.half(24, 1), Check.BAD);
        check.due("half(-1, 1)", x.half(-1, 1), Check.BAD);
        check.due("half(0, 0)", x.half(0, 0), Check.BAD);
        check.due("half(0, 25)", x.half(0, 25), Check.BAD);
        check.due("half(1, 3)", x.half(1, 3), 1);
        check.due("half(4, 3)", x.half(4, 3), 0);
        check.due("half(0, 24), the same hours again", x.half(0, 24), 0);
        check.due("half(6, 1), 10 of 3 and 30 of 4", x.half(6, 1), 1);
        check.due("half(7, 1), 30 of 3 and 10 of 4", x.half(7, 1), 0);
        // 1 clean now, 2 in order: 5 by 1 and 10 by 2 are as much.
        x = Check.laid("n6,5;t0,1,1,1;t0,1,1,1;p0,0,1;c0,5;c1,10;c2,11;c3,6;");
        check.due("as much is not less", x.half(0, 1), 0);
        check.due("half(1, 1)", x.half(1, 1), 0);
        check.due("half(3, 1), 6 and 10 by 2", x.half(3, 1), 0);
        x = Check.laid("n6,5;t0,1,1,1;t0,1,1,1;p0,0,1;c23,5;c0,11;");
        check.due("5 and 11 by 2, over midnight", x.half(23, 1), 1);
    }

    private static void halfOfNone() {
        PlatesLookingIn x = Check.laid("t0,1,1,1;");
        check.due("none is clean now", x.half(0, 1), 0);
        x.wash(0);
        check.due("the washed are not clean now", x.half(0, 1), 0);
        // In order, one behind the other, the two spoons touch.
        x = Check.laid("n6,2;t2,1,1,1;t2,1,1,1;p0,0,1;");
        check.due("clean now", x.clean(), 1);
        check.due("none is clean in order", x.order(-1), 0);
        check.due("half() then", x.half(0, 1), 1);
    }

    private static void isClean() {
        PlatesLookingIn x = new PlatesLookingIn();
        check.due("isClean(5, 8, 2, 5, 0)", x.isClean(5, 8, 2, 5, 0), 8);
        check.due("isClean(5, 8, 2, 5, 1)", x.isClean(5, 8, 2, 5, 1), 9);
        check.due("isClean(1, 1, 10, 10, 0)", x.isClean(1, 1, 10, 10, 0), 1);
        check.due("isClean(1, 1, 10, 10, 1)", x.isClean(1, 1, 10, 10, 1), 91);
        check.due("isClean(3, 7, 9, 1, 0)", x.isClean(3, 7, 9, 1, 0), 10);
        check.due("isClean(3, 7, 9, 1, 1)", x.isClean(3, 7, 9, 1, 1), 13);
    }

    private static void isCleanAtTheEdges() {
        PlatesLookingIn x = new PlatesLookingIn();
        check.due("never run: above", x.isClean(0, 5, 5, 5, 0), 0);
        check.due("never run: below", x.isClean(0, 5, 5, 5, 1), 1);
        check.due("always run: above", x.isClean(10, 5, 5, 5, 0), 1);
        check.due("always run: below", x.isClean(10, 5, 5, 5, 1), 1);
        check.due("never turned", x.isClean(5, 0, 0, 5, 0), Check.NONE);
        check.due("never turned if run, no clean cup else", x.isClean(5, 0, 5, 0, 1), Check.NONE);
        check.due("always run, never turned", x.isClean(10, 0, 10, 10, 0), Check.NONE);
        check.due("all ten", x.isClean(10, 10, 10, 10, 1), 1);
        check.due("x 11", x.isClean(11, 5, 5, 5, 0), Check.BAD);
        check.due("x -1", x.isClean(-1, 5, 5, 5, 0), Check.BAD);
        check.due("s 11", x.isClean(5, 11, 5, 5, 0), Check.BAD);
        check.due("s -1", x.isClean(5, -1, 5, 5, 0), Check.BAD);
        check.due("u 11", x.isClean(5, 5, 11, 5, 0), Check.BAD);
        check.due("u -1", x.isClean(5, 5, -1, 5, 0), Check.BAD);
        check.due("c 11", x.isClean(5, 5, 5, 11, 0), Check.BAD);
        check.due("c -1", x.isClean(5, 5, 5, -1, 0), Check.BAD);
        check.due("part 2", x.isClean(5, 5, 5, 5, 2), Check.BAD);
        check.due("part -1", x.isClean(5, 5, 5, 5, -1), Check.BAD);
        check.due("BAD ahead of NONE", x.isClean(5, 0, 0, 5, 2), Check.BAD);
    }

    private static void day() {
        PlatesLookingIn x = new PlatesLookingIn();
        check.due("day(-1, 1, 0)", x.day(-1, 1, 0), Check.BAD);
        check.due("day(10000, 1, 0)", x.day(10000, 1, 0), Check.BAD);
        check.due("day(0, 0, 0)", x.day(0, 0, 0), Check.BAD);
        check.due("day(0, 31, 0)", x.day(0, 31, 0), Check.BAD);
        check.due("day(0, 1, 2)", x.day(0, 1, 2), Check.BAD);
        check.due("day(0, 1, -1)", x.day(0, 1, -1), Check.BAD);
        // x is 1: DRAW is 0, thing 0 into slot 0 turned left, which looks out.
        check.due("day(0, 1, 0)", x.day(0, 1, 0), 1);
        check.due("day(0, 1, 1)", x.day(0, 1, 1), 1);
        x.water(3);
        check.due("day(0, 1, 1), weaker", x.day(0, 1, 1), 0);
        x.wash(0);
        check.due("day(0, 1, 0), washed", x.day(0, 1, 0), 0);
        check.due("the rack is as it was", x.count(5), 4);
        // The square of x is beyond an int: here it is worked out by its rest.
        long big = 7919L * 9999 + 1;
        long rest = big % 65521;
        int draw = (int) (rest * rest % 65521 / 2);
        PlatesLookingIn y = Check.laid("n14,0;" + "t0,1,1,1;".repeat(7));
        check.due("day(9999, 30, 0) is none of the faults", y.day(9999, 30, 0) > 0 ? 1 : 0, 1);
        check.due("day(9999, 1, 0)", y.day(9999, 1, 0), 1 << (draw % 7));
    }
}
