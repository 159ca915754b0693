import java.util.function.Supplier;

/**
 * The document's sentence "A call that returns an error changes nothing", for each error of each change, and
 * that what only asks changes nothing either. The state is looked at after each number of undo calls, on
 * objects of its own, as no object is used for more than 512 calls.
 */
public final class RefusalsTest {
    private static final int INVALID = AntTrails.INVALID_ARGUMENT;
    private static final int NOT_POSSIBLE = AntTrails.NOT_POSSIBLE;
    private static final int LIMIT = AntTrails.LIMIT_REACHED;
    private static final int NOT_FOUND = AntTrails.NOT_FOUND;
    private static final int LEAST = Integer.MIN_VALUE;
    private static final int MOST = Integer.MAX_VALUE;

    /** What is done to an object; its answer is the last one. */
    private interface Call {
        int on(AntTrails x);
    }

    public static void main(String[] args) {
        Check.says("A call that returns an error changes nothing");
        nothingThere();
        onePlace();
        halfFull();
        halfFullTexts();
        full();
        fullText();
        manyInARow();
        Check.says("Tells what would be");
        questions();
        Check.end("RefusalsTest");
    }

    // The states.

    private static AntTrails nothing() {
        return Grounds.text(new AntTrails(), "s0,1;l1;");
    }

    private static AntTrails one() {
        AntTrails x = new AntTrails();
        x.place();
        x.set(0, 3);
        return Grounds.text(x, "s0,1;l1;");
    }

    /** With a best way, trails out of bounds and a closed path, and three states. */
    private static AntTrails half() {
        AntTrails x = Grounds.winding();
        x.path(0, 1, 19);
        x.path(0, 3, 9);
        x.place();
        x.set(1, 35);
        x.lap(4);
        x.close(1, true);
        x.set(5, 101);
        x.undo();
        x.undo();
        x.close(1, true);
        x.undo();
        x.set(5, 101);
        x.close(4, true);
        return Grounds.text(x, "l5;f2;s0,1;c1;l1;");
    }

    /** With ten places, sixteen paths, four states and a text of 60 characters. */
    private static AntTrails fullOne() {
        return fullWith("l1;l1;l1;c0;o0;f9;f1;f0004;s0,1;s1,33;s0,5;s5,777;s6,99;l5;l");
    }

    private static AntTrails fullWith(String text) {
        AntTrails x = Grounds.of(10);
        for (int k = 0; k < 16; k++) {
            x.path(k % 9, k % 9 + 1, k + 5);
        }
        x.food(4);
        x.lap(5);
        x.close(15, true);
        x.close(0, true);
        x.close(0, false);
        return Grounds.text(x, text);
    }

    // What is refused.

    private static void refused(String call, Supplier<AntTrails> state, Call refusedCall, int error) {
        AntTrails first = state.get();
        int states = first.count(12);
        Check.due(call, refusedCall.on(first), error);
        Check.due("count(12) after " + call, first.count(12), states);
        for (int undone = 0; undone <= states; undone++) {
            AntTrails got = undo(state.get(), refusedCall, undone);
            AntTrails want = undo(state.get(), null, undone);
            Check.same("after " + call + " and " + undone + " undo()", Grounds.all(got), Grounds.all(want));
        }
        AntTrails got = undo(state.get(), refusedCall, states);
        Check.due("one undo() more after " + call, got.undo(), NOT_POSSIBLE);
        goesOn("going on after " + call, undo(state.get(), refusedCall, 0), undo(state.get(), null, 0));
    }

    private static AntTrails undo(AntTrails x, Call call, int times) {
        if (call != null) {
            call.on(x);
        }
        for (int k = 0; k < times; k++) {
            x.undo();
        }
        return x;
    }

    /** The next calls answer the same, the text is the same too. */
    private static void goesOn(String when, AntTrails got, AntTrails want) {
        Check.due(when + ": type(';')", got.type(';'), want.type(';'));
        Check.due(when + ": play()", got.play(), want.play());
        Check.due(when + ": lap(1)", got.lap(1), want.lap(1));
        Check.due(when + ": undo()", got.undo(), want.undo());
        Check.due(when + ": place()", got.place(), want.place());
        Check.same(when, Grounds.all(got), Grounds.all(want));
    }

    private static void allRefused(String when, Supplier<AntTrails> state, int error, Call... calls) {
        for (int k = 0; k < calls.length; k++) {
            refused("call " + k + " " + when, state, calls[k], error);
        }
    }

    private static void nothingThere() {
        allRefused("without places, out of range", RefusalsTest::nothing, INVALID, x -> x.path(0, 1, 1),
            x -> x.close(0, true), x -> x.close(0, false), x -> x.food(0), x -> x.food(1), x -> x.lap(0),
            x -> x.lap(6), x -> x.set(-1, 1), x -> x.set(7, 1), x -> x.set(0, 0), x -> x.type(31), x -> x.type(127));
        allRefused("without places, not possible", RefusalsTest::nothing, NOT_POSSIBLE, x -> x.lap(1), x -> x.lap(5),
            AntTrails::play, AntTrails::undo);
    }

    private static void onePlace() {
        allRefused("with one place, out of range", RefusalsTest::one, INVALID, x -> x.path(0, 1, 1),
            x -> x.path(0, 0, 1), x -> x.food(1), x -> x.food(0), x -> x.lap(0), x -> x.lap(LEAST));
        allRefused("with one place, not possible", RefusalsTest::one, NOT_POSSIBLE, x -> x.lap(1), x -> x.lap(5),
            AntTrails::play);
    }

    private static void halfFull() {
        allRefused("of path", RefusalsTest::half, INVALID, x -> x.path(-1, 0, 1), x -> x.path(5, 0, 1),
            x -> x.path(0, -1, 1), x -> x.path(0, 5, 1), x -> x.path(2, 2, 1), x -> x.path(0, 1, 0),
            x -> x.path(0, 1, 21), x -> x.path(LEAST, MOST, MOST));
        allRefused("of close", RefusalsTest::half, INVALID, x -> x.close(-1, true), x -> x.close(5, true),
            x -> x.close(-1, false), x -> x.close(5, false), x -> x.close(LEAST, true), x -> x.close(MOST, false));
        allRefused("of close", RefusalsTest::half, NOT_POSSIBLE, x -> x.close(0, false), x -> x.close(4, true));
        allRefused("of food", RefusalsTest::half, INVALID, x -> x.food(0), x -> x.food(5), x -> x.food(-1),
            x -> x.food(LEAST), x -> x.food(MOST));
        allRefused("of food", RefusalsTest::half, NOT_POSSIBLE, x -> x.food(1));
        allRefused("of lap", RefusalsTest::half, INVALID, x -> x.lap(0), x -> x.lap(6), x -> x.lap(-1),
            x -> x.lap(LEAST), x -> x.lap(MOST));
        allRefused("of set", RefusalsTest::half, INVALID, x -> x.set(-1, 5), x -> x.set(7, 5), x -> x.set(LEAST, 5),
            x -> x.set(MOST, 5));
        int[] least = {1, 0, 1, 0, 1, 100, 1};
        int[] greatest = {5, 90, 999, 9, 99, 9999, 99};
        for (int k = 0; k < least.length; k++) {
            int what = k;
            allRefused("of set(" + what + ")", RefusalsTest::half, INVALID, x -> x.set(what, least[what] - 1),
                x -> x.set(what, greatest[what] + 1), x -> x.set(what, LEAST), x -> x.set(what, MOST));
        }
    }

    private static void halfFullTexts() {
        allRefused("of type", RefusalsTest::half, INVALID, x -> x.type(31), x -> x.type(127), x -> x.type(LEAST),
            x -> x.type(MOST));
        Check.due("the text without fault", half().fault(0), NOT_FOUND);
        String[] texts = {"l5;f2;s0,1;c1;l6;", "l5;f2;s0,1;c4;", "l5;f2;s0,1;c1;l1", "!", "l0;", "p1,0,5;c5;o5;o5;"};
        for (String text : texts) {
            refused("play() of " + text, () -> Grounds.text(half(), text), AntTrails::play, NOT_POSSIBLE);
        }
    }

    private static void full() {
        allRefused("when all is full", RefusalsTest::fullOne, LIMIT, AntTrails::place, x -> x.path(0, 1, 1),
            x -> x.path(9, 0, 20));
        allRefused("when all is full, out of range", RefusalsTest::fullOne, INVALID, x -> x.path(0, 0, 1),
            x -> x.path(0, 10, 1), x -> x.path(0, 1, 21), x -> x.close(16, true), x -> x.close(16, false),
            x -> x.food(0), x -> x.food(10), x -> x.lap(6), x -> x.set(7, 1), x -> x.set(5, 10000));
        allRefused("when all is full, not possible", RefusalsTest::fullOne, NOT_POSSIBLE, x -> x.food(4),
            x -> x.close(15, true), x -> x.close(0, false), AntTrails::play);
    }

    private static void fullText() {
        Check.due("count(13)", fullOne().count(13), 60);
        allRefused("with 60 characters", RefusalsTest::fullOne, LIMIT, x -> x.type(32), x -> x.type(126),
            x -> x.type(';'), x -> x.type('1'));
        allRefused("with 60 characters, out of range", RefusalsTest::fullOne, INVALID, x -> x.type(31),
            x -> x.type(127));
        Supplier<AntTrails> withoutFault = () -> fullWith("l1;".repeat(20));
        Check.due("fault(0)", withoutFault.get().fault(0), NOT_FOUND);
        Check.due("fault(0) of one that breaks off", fullOne().fault(0), 59);
        allRefused("with 20 orders", withoutFault, LIMIT, x -> x.type('!'), x -> x.type(';'));
    }

    private static void manyInARow() {
        Call many = x -> {
            for (int k = 0; k < 12; k++) {
                x.path(0, 0, 1);
                x.lap(6);
                x.food(1);
            }
            return x.set(0, 0);
        };
        refused("many refused calls in a row", () -> Grounds.winding(), many, INVALID);
    }

    // What only asks.

    private static void questions() {
        Call[] asked = {
            x -> x.pathOf(0, 3) + x.pathOf(0, 5) + x.pathOf(4, 7) + x.pathOf(9, 0),
            x -> x.placeOf(1, 3) + x.placeOf(4, 3) + x.placeOf(0, 4) + x.placeOf(9, 0),
            x -> x.best(0) + x.best(3) + x.best(4) + x.bestAt(0) + x.bestAt(-1) + x.bestAt(9),
            x -> x.chance(0, 0) + x.chance(0, 3) + x.chance(9, 9),
            x -> x.greedy(0) + x.greedy(1) + x.greedy(2) + x.greedy(3) + x.greedy(4),
            x -> x.over() + x.count(8) + x.count(11) + x.count(14),
            x -> x.ant(0) + x.ant(1) + x.ant(2) + x.ant(3),
            x -> x.would(5, 0) + x.would(5, 1) + x.would(5, 2) + x.would(5, 3) + x.would(6, 0) + x.would(1, 4),
            x -> x.fault(0) + x.fault(1) + x.fault(2) + x.fault(3)};
        for (int k = 0; k < asked.length; k++) {
            asksOnly("question " + k, RefusalsTest::half, asked[k]);
            asksOnly("question " + k + " when all is full", RefusalsTest::fullOne, asked[k]);
        }
    }

    private static void asksOnly(String what, Supplier<AntTrails> state, Call question) {
        int states = state.get().count(12);
        for (int undone = 0; undone <= states; undone++) {
            AntTrails got = undo(state.get(), question, undone);
            Check.due("count(12) after " + what + " and " + undone + " undo()", got.count(12), states - undone);
            AntTrails want = undo(state.get(), null, undone);
            Check.same("after " + what + " and " + undone + " undo()", Grounds.all(got), Grounds.all(want));
        }
        goesOn("going on after " + what, undo(state.get(), question, 0), undo(state.get(), null, 0));
    }
}
