/** Counts what is as due and prints what is not. */
final class Check {
    static final int INDEX = 1;
    static final int ARGUMENT = 2;
    static final int STATE = 3;

    interface Call {
        long answer();
    }

    private int passed;
    private int failed;
    private String place = "";

    void at(String newPlace) {
        place = newPlace;
    }

    int passed() {
        return passed;
    }

    int failed() {
        return failed;
    }

    void holds(String what, boolean isRight) {
        if (isRight) {
            passed++;
        } else {
            failed++;
            System.out.println(place + ": " + what);
        }
    }

    void same(String what, long got, long due) {
        holds(what + " answered " + got + ", due is " + due, got == due);
    }

    /** A call that has to throw, and to change nothing that can be looked at. */
    void refused(String what, ReelScreens x, int kind, Call call) {
        long before = x.digest();
        int thrown = kindOf(call);
        holds(what + " threw " + thrown + ", due is " + kind, thrown == kind);
        holds(what + " threw and changed something", x.digest() == before);
    }

    /** What a call throws: 1 for the index, 2 for the argument, 3 for the state; 0 for none. */
    static int kindOf(Call call) {
        try {
            call.answer();
            return 0;
        } catch (RuntimeException e) {
            if (e.getClass() == IndexOutOfBoundsException.class) {
                return INDEX;
            }
            if (e.getClass() == IllegalArgumentException.class) {
                return ARGUMENT;
            }
            return e.getClass() == IllegalStateException.class ? STATE : -1;
        }
    }
}
