/** Counts and prints answers that are not the ones that are due. */
final class Check {
    private static final int MOST_PRINTED = 40;

    private int wrong;

    interface Call {
        long answer();
    }

    void same(String what, long due, long got) {
        if (due != got) {
            tell(what + " answered " + got + ", due is " + due);
        }
    }

    void same(String what, String due, String got) {
        if (!due.equals(got)) {
            tell(what + " answered " + got + ", due is " + due);
        }
    }

    /** The answer of a call as a text, or the name of the exception that it throws. */
    static String answerOf(Call call) {
        try {
            return Long.toString(call.answer());
        } catch (RuntimeException thrown) {
            return "throws." + thrown.getClass().getSimpleName();
        }
    }

    void throwsIndex(String what, Call call) {
        same(what, "throws.IndexOutOfBoundsException", answerOf(call));
    }

    void throwsArgument(String what, Call call) {
        same(what, "throws.IllegalArgumentException", answerOf(call));
    }

    void throwsState(String what, Call call) {
        same(what, "throws.IllegalStateException", answerOf(call));
    }

    void tell(String fault) {
        wrong++;
        if (wrong <= MOST_PRINTED) {
            System.out.println(fault);
        }
    }

    boolean isClean() {
        return wrong == 0;
    }

    void end() {
        System.out.println(wrong == 0 ? "all answers are as due" : wrong + " answers are not as due");
        if (wrong != 0) {
            System.exit(1);
        }
    }
}
