/** Counts the checks that hold and tells the ones that do not. */
final class Tally {
    /** A call whose answer is a whole number; a character counts as its code, a boolean as 1 or 0. */
    interface Call {
        long answer();
    }

    private int passed = 0;
    private int failed = 0;

    int passed() {
        return passed;
    }

    int failed() {
        return failed;
    }

    void due(String what, long want, Call call) {
        try {
            due(what, Long.toString(want), Long.toString(call.answer()));
        } catch (RuntimeException e) {
            due(what, Long.toString(want), e.toString());
        }
    }

    void due(String what, String want, String got) {
        if (want.equals(got)) {
            passed++;
        } else {
            failed++;
            System.out.println(what + ": answered " + got + ", due is " + want);
        }
    }

    void dueThrows(String what, Class<? extends RuntimeException> want, Call call) {
        String got;
        try {
            got = Long.toString(call.answer());
        } catch (RuntimeException e) {
            got = e.getClass().getSimpleName();
        }
        due(what, want.getSimpleName(), got);
    }

    static long truth(boolean answer) {
        return answer ? 1 : 0;
    }
}
