import java.util.ArrayList;
import java.util.List;
import java.util.function.Supplier;
import java.util.function.ToIntFunction;

/**
 * "nothing changes then": behind a call that is refused, and behind a question, an object answers
 * all that can be asked as one does on which the call was not made.
 */
public final class RefusedTest {
    private static final int NONE = Check.NONE, BAD = Check.BAD, NO = Check.NO, FULL = Check.FULL;
    private static final Check check = new Check();

    public static void main(String[] args) {
        racks();
        acts();
        whatComesClean();
        whatWouldBe();
        whatWasSeen();
        runningIt();
        kept();
        questions();
        check.end();
    }

    /** Something washed, seen, to be undone, kept twice, and a text with a fault behind it. */
    private static PlatesLookingIn lived() {
        PlatesLookingIn x = new PlatesLookingIn();
        x.wash(6);
        x.keep();
        x.turn(2);
        x.seen(0, 1);
        x.water(7);
        x.keep();
        x.takeOut(1);
        x.seen(4, 0);
        Check.writeAll(x, "n3,0;t0,1,1,1;a");
        return x;
    }

    private static PlatesLookingIn withFullText() {
        PlatesLookingIn x = lived();
        Check.writeAll(x, "5".repeat(200 - x.count(10)));
        return x;
    }

    /** Of a text without a thing. */
    private static PlatesLookingIn withoutThing() {
        PlatesLookingIn x = lived();
        x.wipe();
        Check.writeAll(x, "n3,0;a5;w5;c0,1;");
        return x;
    }

    private static List<Integer> all(PlatesLookingIn x) {
        List<Integer> answers = new ArrayList<>();
        for (int what = 0; what <= 10; what++) answers.add(x.count(what));
        for (int t = 0; t < 7; t++) {
            for (int what = 0; what < 4; what++) answers.add(x.thing(t, what));
        }
        for (int h = 0; h < 24; h++) answers.add(x.run(h, 1, 1));
        answers.add(x.fault());
        answers.add(x.strong());
        answers.add(x.order(-1));
        stand(x, answers);
        for (int i = 0, left = x.undo(); i < 9 && left != NO; i++, left = x.undo()) {
            answers.add(left);
            stand(x, answers);
        }
        for (int i = 0, left = x.back(); i < 3 && left != NO; i++, left = x.back()) {
            answers.add(left);
            stand(x, answers);
        }
        answers.add(x.strong());
        answers.add(x.forget());
        answers.add(x.write('5'));
        answers.add(x.write(';'));
        answers.add(x.fault());
        answers.add(x.lay());
        stand(x, answers);
        return answers;
    }

    private static void stand(PlatesLookingIn x, List<Integer> answers) {
        for (int t = 0; t < 7; t++) {
            answers.add(x.thing(t, 4));
            answers.add(x.thing(t, 5));
            answers.add(x.thing(t, 6));
        }
        answers.add(x.count(4));
    }

    private static void same(String call, Supplier<PlatesLookingIn> make, ToIntFunction<PlatesLookingIn> ask) {
        PlatesLookingIn x = make.get();
        int first = ask.applyAsInt(x);
        check.due(call + " asked again", ask.applyAsInt(x), first);
        check.due(call + " changes something", all(x).equals(all(make.get())) ? 0 : 1, 0);
    }

    private static void refused(String call, Supplier<PlatesLookingIn> make, int want,
            ToIntFunction<PlatesLookingIn> ask) {
        check.due(call, ask.applyAsInt(make.get()), want);
        same(call, make, ask);
    }

    private static void refused(String call, int want, ToIntFunction<PlatesLookingIn> ask) {
        refused(call, RefusedTest::lived, want, ask);
    }

    private static void racks() {
        check.edge("write, lay, thing, slot: nothing changes then");
        refused("write(31)", BAD, x -> x.write(31));
        refused("write(127)", BAD, x -> x.write(127));
        refused("write(53), full", RefusedTest::withFullText, FULL, x -> x.write('5'));
        refused("write(127), full", RefusedTest::withFullText, BAD, x -> x.write(127));
        refused("lay() of a fault", NO, x -> x.lay());
        refused("lay() without a thing", RefusedTest::withoutThing, NO, x -> x.lay());
        refused("thing(7, 4)", BAD, x -> x.thing(7, 4));
        refused("thing(5, 4)", NONE, x -> x.thing(5, 4));
        refused("slot(12)", BAD, x -> x.slot(12));
        refused("slot(3)", NONE, x -> x.slot(3));
    }

    private static void acts() {
        check.edge("putIn, turn, takeOut, wash, water, undo: nothing changes then");
        refused("putIn(7, 9, 0)", BAD, x -> x.putIn(7, 9, 0));
        refused("putIn(5, 12, 0)", BAD, x -> x.putIn(5, 12, 0));
        refused("putIn(5, 9, 2)", BAD, x -> x.putIn(5, 9, 2));
        refused("putIn(0, 10, 0), in", NO, x -> x.putIn(0, 10, 0));
        refused("putIn(6, 9, 0), washed", NO, x -> x.putIn(6, 9, 0));
        refused("putIn(5, 7, 0), taken", NO, x -> x.putIn(5, 7, 0));
        refused("putIn(5, 11, 0), over the end", NO, x -> x.putIn(5, 11, 0));
        refused("turn(7)", BAD, x -> x.turn(7));
        refused("turn(1), out", NO, x -> x.turn(1));
        refused("turn(6), washed", NO, x -> x.turn(6));
        refused("takeOut(-1)", BAD, x -> x.takeOut(-1));
        refused("takeOut(1), out", NO, x -> x.takeOut(1));
        refused("wash(7)", BAD, x -> x.wash(7));
        refused("wash(6), washed", NO, x -> x.wash(6));
        refused("water(0)", BAD, x -> x.water(0));
        refused("water(10)", BAD, x -> x.water(10));
        refused("undo()", PlatesLookingIn::new, NO, x -> x.undo());
    }

    private static void whatComesClean() {
        check.edge("stands, room: nothing changes then");
        refused("stands(7, 0)", BAD, x -> x.stands(7, 0));
        refused("stands(0, 4)", BAD, x -> x.stands(0, 4));
        refused("stands(1, 0), out", NO, x -> x.stands(1, 0));
        refused("room(7)", BAD, x -> x.room(7));
        refused("room(0), in", NO, x -> x.room(0));
        refused("room(6), washed", NO, x -> x.room(6));
    }

    private static void whatWouldBe() {
        check.edge("place, byHand, order, ways, weakest: nothing changes then");
        refused("place(7, 0)", BAD, x -> x.place(7, 0));
        refused("place(0, 2)", BAD, x -> x.place(0, 2));
        refused("place(6, 0), washed", NO, x -> x.place(6, 0));
        refused("place(0, 0), no room", () -> Check.laid("n3,0;t0,4,1,1;"), NONE, x -> x.place(0, 0));
        refused("byHand(2)", BAD, x -> x.byHand(2));
        refused("byHand(0), empty", () -> Check.laid("n3,0;t0,4,1,1;"), NONE, x -> x.byHand(0));
        refused("order(-2)", BAD, x -> x.order(-2));
        refused("order(6), six are not washed", NONE, x -> x.order(6));
        refused("ways(2)", BAD, x -> x.ways(2));
        refused("weakest(), empty", () -> Check.laid("n3,0;t0,4,1,1;"), NONE, x -> x.weakest());
    }

    private static void whatWasSeen() {
        check.edge("seen: nothing changes then");
        refused("seen(7, 0)", BAD, x -> x.seen(7, 0));
        refused("seen(2, 2)", BAD, x -> x.seen(2, 2));
        refused("seen(1, 0), out", NO, x -> x.seen(1, 0));
        refused("seen(6, 0), washed", NO, x -> x.seen(6, 0));
        refused("seen(0, 0), seen", NO, x -> x.seen(0, 0));
        refused("seen(4, 1), seen", NO, x -> x.seen(4, 1));
    }

    private static void runningIt() {
        check.edge("run, half, isClean, day: nothing changes then");
        refused("run(24, 1, 0)", BAD, x -> x.run(24, 1, 0));
        refused("half(0, 25)", BAD, x -> x.half(0, 25));
        refused("isClean(11, 0, 0, 0, 0)", BAD, x -> x.isClean(11, 0, 0, 0, 0));
        refused("isClean(0, 0, 0, 0, 0)", NONE, x -> x.isClean(0, 0, 0, 0, 0));
        refused("day(0, 31, 0)", BAD, x -> x.day(0, 31, 0));
    }

    private static void kept() {
        check.edge("keep, back, count: nothing changes then");
        refused("keep()", FULL, x -> x.keep());
        refused("back()", PlatesLookingIn::new, NO, x -> x.back());
        refused("count(11)", BAD, x -> x.count(11));
    }

    private static void question(String call, ToIntFunction<PlatesLookingIn> ask) {
        same(call, RefusedTest::lived, ask);
    }

    private static void questions() {
        check.edge("a question is no act");
        question("fault()", x -> x.fault());
        question("thing(2, 4)", x -> x.thing(2, 4));
        question("slot(0)", x -> x.slot(0));
        question("stands(0, 3)", x -> x.stands(0, 3));
        question("clean()", x -> x.clean());
        question("pooled()", x -> x.pooled());
        question("room(5)", x -> x.room(5));
        question("place(5, 0), out", x -> x.place(5, 0));
        question("place(2, 1), in", x -> x.place(2, 1));
        question("byHand(0)", x -> x.byHand(0));
        question("order(-1)", x -> x.order(-1));
        question("order(0)", x -> x.order(0));
        question("ways(0)", x -> x.ways(0));
        question("ways(1)", x -> x.ways(1));
        question("weakest()", x -> x.weakest());
        question("strong()", x -> x.strong());
        question("run(0, 24, 0)", x -> x.run(0, 24, 0));
        question("half(0, 3)", x -> x.half(0, 3));
        question("isClean(5, 8, 2, 5, 0)", x -> x.isClean(5, 8, 2, 5, 0));
        question("day(77, 30, 0)", x -> x.day(77, 30, 0));
        question("day(77, 30, 1)", x -> x.day(77, 30, 1));
        question("count(5)", x -> x.count(5));
    }
}
