/** What the tests have in common: answers beside those that are due, and a count of the wrong ones. */
final class Checks {
    static final String IOOBE = "IndexOutOfBoundsException";
    static final String IAE = "IllegalArgumentException";
    static final String UOE = "UnsupportedOperationException";

    /** A call whose exception is due. */
    interface Call {
        Object make();
    }

    private int wrong = 0;
    private int looked = 0;

    void same(String what, Object due, Object got) {
        looked++;
        if (!due.equals(got)) {
            wrong++;
            if (wrong <= 50) {
                System.out.println(what + " answered " + got + ", due is " + due);
            }
        }
    }

    void throwsDue(String what, String exception, Call call) {
        same(what, exception, answer(call));
    }

    /** What a call answers, or the name of the exception that it throws. */
    static Object answer(Call call) {
        try {
            return call.make();
        } catch (RuntimeException e) {
            return e.getClass().getSimpleName();
        }
    }

    void end() {
        if (looked == 0 || wrong != 0) {
            System.out.println(wrong + " of " + looked + " answers are not as due");
            System.exit(1);
        }
    }
}
