import java.util.Arrays;
import java.util.List;

/**
 * All that calls can tell of an object: what it answers now, and what it would answer when its
 * command text is run, its changes are undone or its snapshot is restored. Each part is asked of an
 * object of its own, so that none is used for more than the 512 calls of the document.
 */
final class Whole {
    static final String REFUSAL = "refusal";
    static final String TEXT = "command text";
    static final String ERROR_POSITION = "error position";
    static final String FAILED_COMMAND = "failed command";
    static final String LINE = "line";
    private static final int MORE_THAN_ALL_CHANGES = 9;

    interface Maker {
        MapSanatorium make();
    }

    interface Use {
        long answer(MapSanatorium map);
    }

    private Whole() {
    }

    /** The call has to throw that, and to leave a used map as it was. */
    static void dueThrows(Tally tally, String what, Class<? extends RuntimeException> want, Use use) {
        dueThrows(tally, what, want, Maps::used, use);
    }

    static void dueThrows(Tally tally, String what, Class<? extends RuntimeException> want, Maker maker, Use use) {
        tally.dueThrows(what, want, () -> use.answer(maker.make()));
        dueSame(tally, what + " and changes nothing", maker, () -> after(maker, use));
    }

    /** The call has to keep that refusal, and to leave a used map as it was but for this. */
    static void dueRefused(Tally tally, String what, Maker maker, Use use, int reason, int detail) {
        tally.dueThrows(what, UnsupportedOperationException.class, () -> use.answer(maker.make()));
        tally.due(what + " for the reason", reason, () -> after(maker, use).refusalReason());
        tally.due(what + " with the detail", detail, () -> after(maker, use).refusalDetail());
        dueSame(tally, what + " and changes nothing else", maker, () -> after(maker, use), REFUSAL);
    }

    /** The call has to answer that, and to leave a used map as it was. */
    static void dueQuestion(Tally tally, String what, long want, Use use) {
        tally.due(what, want, () -> use.answer(Maps.used()));
        dueSame(tally, what + " changes nothing", Maps::used, () -> after(Maps::used, use));
    }

    static void dueSame(Tally tally, String what, Maker want, Maker got, String... besides) {
        boolean same = of(want, besides).equals(of(got, besides));
        tally.due(what, "as it was", same ? "as it was" : "changed");
    }

    static MapSanatorium after(Maker maker, Use use) {
        MapSanatorium map = maker.make();
        answerOf(() -> use.answer(map));
        return map;
    }

    static String answerOf(Tally.Call call) {
        try {
            return call.answer() + " ";
        } catch (RuntimeException e) {
            return e.getClass().getSimpleName() + " ";
        }
    }

    private static String of(Maker maker, String... besides) {
        List<String> left = Arrays.asList(besides);
        StringBuilder whole = new StringBuilder(readings(maker.make(), besides));
        for (int undone = 0; undone <= MORE_THAN_ALL_CHANGES; undone++) {
            MapSanatorium map = maker.make();
            if (!left.contains(TEXT)) {
                whole.append(answerOf(map::run));
            }
            for (int call = 0; call < undone; call++) {
                whole.append(answerOf(map::undo));
            }
            whole.append(readings(map, besides));
        }
        MapSanatorium map = maker.make();
        whole.append(answerOf(map::restore)).append(readings(map, besides)).append(answerOf(map::undo));
        return whole.toString();
    }

    /** What an object answers now. */
    static String readings(MapSanatorium map, String... besides) {
        List<String> left = Arrays.asList(besides);
        StringBuilder readings = new StringBuilder("\n");
        for (int cell = 0; cell < 64; cell++) {
            int x = cell % 8;
            int y = cell / 8;
            readings.append(map.groundAt(x, y)).append(map.heatAt(x, y)).append('+').append(map.embersAt(x,
                    y)).append(' ');
        }
        for (int side = 0; side < 4; side++) {
            readings.append(map.border(side)).append('-').append(map.lostBy(side)).append(' ');
        }
        readings.append(answerOf(map::ticks)).append(answerOf(map::relapses));
        readings.append(answerOf(map::allHeat)).append(answerOf(map::allHeatByAccounts));
        if (!left.contains(REFUSAL)) {
            readings.append(answerOf(map::refusalReason)).append(answerOf(map::refusalDetail));
        }
        if (!left.contains(ERROR_POSITION)) {
            readings.append(answerOf(map::errorPosition));
        }
        if (!left.contains(FAILED_COMMAND)) {
            readings.append(answerOf(map::failedCommand));
        }
        if (!left.contains(LINE)) {
            readings.append(lineOf(map));
        }
        return readings.toString();
    }

    static String lineOf(MapSanatorium map) {
        StringBuilder line = new StringBuilder();
        try {
            for (int index = 0; index < 100; index++) {
                line.append(map.lineAt(index));
            }
        } catch (IndexOutOfBoundsException e) {
            return line.toString();
        }
        return line.toString();
    }
}
