/**
 * Tests that bear the document's own words: each names the heading and the sentence under which one
 * finds it, and fails if DOC.md has no such sentence.
 */
final class Edges {
    interface Test {
        void run();
    }

    interface Maker {
        ReelScreens make();
    }

    interface Call {
        long answer(ReelScreens x);
    }

    interface Try {
        long answer(ReelScreens x, int value);
    }

    interface Many {
        long answer(ReelScreens x, int[] values);
    }

    interface Due {
        int kind(int[] values);
    }

    static final int LEAST = Integer.MIN_VALUE;
    static final int GREATEST = Integer.MAX_VALUE;

    private final Check check;
    private final Document document;
    private String heading = "";

    Edges(Check check, Document document) {
        this.check = check;
        this.document = document;
    }

    void heading(String newHeading) {
        heading = newHeading;
    }

    /** Runs a test of these words of the document. */
    void test(String words, Test test) {
        check.at(heading + " | " + words);
        check.holds("DOC.md has no such words", document.name(heading, words));
        int before = check.passed() + check.failed();
        test.run();
        check.holds("the test asked nothing", check.passed() + check.failed() > before);
    }

    void same(String what, long got, long due) {
        check.same(what, got, due);
    }

    void holds(String what, boolean isRight) {
        check.holds(what, isRight);
    }

    /** Answers of a row of looks. */
    void row(String what, Try look, ReelScreens x, int... due) {
        for (int i = 0; i < due.length; i++) {
            check.same(what + ", " + i, look.answer(x, i), due[i]);
        }
    }

    void answers(String what, Maker maker, Call call) {
        check.same(what + " threw", kindOf(call, maker.make()), 0);
    }

    /** A call that throws, changes nothing that can be asked for later, and saves nothing. */
    void refused(String what, int kind, Maker maker, Call call) {
        ReelScreens x = maker.make();
        check.same(what + " threw", kindOf(call, x), kind);
        sameAll(what + " threw and changed something", x, maker.make());
    }

    /** From the least to the most allowed; beside them, and far out, a call throws. */
    void range(int least, int most, int kind, Maker maker, Try call) {
        int step = Math.max(1, (most - least) / 40);
        for (int value = least; value <= most; value += step) {
            int allowed = value;
            answers("with " + value + ", allowed,", maker, x -> call.answer(x, allowed));
        }
        answers("with " + most + ", the most,", maker, x -> call.answer(x, most));
        int[] out = {least - 1, most + 1, least - 256, most + 256, least - 65536, most + 65536,
            LEAST, LEAST + 1, GREATEST - 1, GREATEST};
        for (int value : out) {
            refused("with " + value + ", out of range,", kind, maker, x -> call.answer(x, value));
        }
    }

    /** Each row of values throws what is due for it. */
    void grid(Maker maker, int[][] candidates, Due due, Many call) {
        int rows = 1;
        for (int[] candidate : candidates) {
            rows *= candidate.length;
        }
        for (int row = 0; row < rows; row++) {
            int[] values = new int[candidates.length];
            int rest = row;
            for (int i = 0; i < values.length; i++) {
                values[i] = candidates[i][rest % candidates[i].length];
                rest /= candidates[i].length;
            }
            String what = "with " + java.util.Arrays.toString(values);
            if (due.kind(values) == 0) {
                answers(what, maker, x -> call.answer(x, values));
            } else {
                refused(what, due.kind(values), maker, x -> call.answer(x, values));
            }
        }
    }

    /** A call that saves one state, and which undo takes back wholly; the maker leaves room for one more. */
    void undoable(Maker maker, Call call) {
        ReelScreens x = maker.make();
        ReelScreens y = maker.make();
        int saved = x.count(11);
        holds("the maker has to leave room", saved < 6);
        same("the call threw", kindOf(call, x), 0);
        same("saved states", x.count(11), saved + 1);
        same("undo", x.undo(), saved);
        y.clearBuffer();
        x.clearBuffer();
        sameAll("undo did not bring all back", x, y);
    }

    /** A call that is not undoable saves nothing. */
    void notUndoable(Maker maker, Call call) {
        ReelScreens x = maker.make();
        int saved = x.count(11);
        call.answer(x);
        same("saved states", x.count(11), saved);
    }

    /** A look: nothing that can be asked for later is changed. */
    void look(Maker maker, Call call) {
        ReelScreens x = maker.make();
        same("the look threw", kindOf(call, x), 0);
        sameAll("the look changed something", x, maker.make());
    }

    /** Compares two objects, their saved states and their snapshots, and uses them up. */
    void sameAll(String what, ReelScreens x, ReelScreens y) {
        boolean isSame = x.digest() == y.digest();
        for (int i = 0; i < 7 && y.count(11) > 0; i++) {
            isSame &= kindOf(ReelScreens::undo, x) == kindOf(ReelScreens::undo, y) && x.digest() == y.digest();
        }
        isSame &= kindOf(ReelScreens::restore, x) == kindOf(ReelScreens::restore, y) && x.digest() == y.digest();
        check.holds(what, isSame);
    }

    static int kindOf(Call call, ReelScreens x) {
        return Check.kindOf(() -> call.answer(x));
    }
}
