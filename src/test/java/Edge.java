/** A call with one value that varies, to be looked at on both sides of the range that it takes. */
final class Edge {
    interface Caller {
        long answer(MapSanatorium map, int value);
    }

    private final Tally tally;
    private final String what;
    private final Caller caller;

    Edge(Tally tally, String what, Caller caller) {
        this.tally = tally;
        this.what = what;
        this.caller = caller;
    }

    Edge takes(int value, long want) {
        tally.due(what + ": takes " + value, want, () -> caller.answer(Maps.used(), value));
        return this;
    }

    /** The values next to the range and the farthest ones have to throw and to change nothing. */
    Edge takesNoneBeyond(int least, int most, Class<? extends RuntimeException> want) {
        return throwsFor(want, least - 1, most + 1, Integer.MIN_VALUE, Integer.MAX_VALUE);
    }

    Edge throwsFor(Class<? extends RuntimeException> want, int... values) {
        for (int value : values) {
            Whole.dueThrows(tally, what + ": throws for " + value, want, map -> caller.answer(map, value));
        }
        return this;
    }
}
