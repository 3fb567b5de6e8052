/** An object is used for at most 512 calls: here 511 of a kind, and the last one that tells of them. */
final class UseTests {
    private static final int BEFORE_THE_LAST = 511;
    private final Tally tally;

    private UseTests(Tally tally) {
        this.tally = tally;
    }

    static void run(Tally tally) {
        UseTests tests = new UseTests(tally);
        tests.changes();
        tests.commands();
        tests.refusals();
        tests.lines();
        tests.snapshots();
        tests.questions();
    }

    private interface Use {
        void call(MapSanatorium map, int number);
    }

    private static MapSanatorium used(Use use) {
        MapSanatorium map = new MapSanatorium();
        for (int number = 0; number < BEFORE_THE_LAST; number++) {
            use.call(map, number);
        }
        return map;
    }

    private void changes() {
        tally.due("P16 511 calls of 20 ticks", 10220, () -> used((map, number) -> map.pass(20)).ticks());
        tally.due("P4 the last heat", 512, () -> used((map, number) -> map.heatUp(7, 7, 1)).heatUp(7, 7, 1));
        tally.due("P7 heat in all cells", 511 * 999, () -> used((map, number) ->
                map.heatUp(number % 8, number / 8 % 8, 999)).allHeat());
        tally.due("P2 grounds that alternate", ':', () -> used((map, number) ->
                map.setGround(3, 3, number % 2 == 0 ? ':' : '~')).setGround(3, 3, '.'));
        tally.due("P12 borders", 9999, () -> used((map, number) -> map.setBorder(2, 9489 + number)).setBorder(2, 0));
        tally.due("P43 eight of 511 changes", 7, () -> used((map, number) -> map.pass(1)).undo());
    }

    /** Six characters and a run are seven calls. */
    private void commands() {
        MapSanatorium ran = used((map, number) -> {
            if (number % 7 == 6) {
                map.run();
            } else {
                map.append("pass 1".charAt(number % 7));
            }
        });
        tally.due("P34 seventy-three runs", 73, ran::ticks);
        MapSanatorium full = used((map, number) -> Whole.answerOf(() -> map.append('x')));
        tally.dueThrows("P33 a text that stays full", IllegalStateException.class, () -> full.append('x'));
        tally.due("P35 empty texts", 0, () -> used((map, number) -> Whole.answerOf(map::run)).errorPosition());
    }

    private void refusals() {
        tally.due("P11 the last refusal", 255, () -> used((map, number) -> {
            if (number % 2 == 0) {
                map.heatUp(0, 0, 1);
            } else {
                Whole.answerOf(() -> map.setGround(0, 0, '#'));
            }
        }).refusalDetail());
    }

    private void lines() {
        tally.due("P39 the end of a legend", '0', () -> used((map, number) -> map.describeLegend(6)).lineAt(22));
        tally.due("P39 the end of a row", '.', () -> used((map, number) -> map.describeRow(number % 8)).lineAt(7));
    }

    private void snapshots() {
        tally.due("P45 of many snapshots the last one", 3 * 170, () -> used((map, number) -> {
            if (number % 3 == 0) {
                map.pass(3);
            } else if (number % 3 == 1) {
                map.save();
            } else {
                map.restore();
            }
        }).restore());
    }

    private void questions() {
        tally.due("P42 asked again and again", 1,
                () -> Tally.truth(used((map, number) -> map.isConsistent()).isConsistent()));
        tally.due("P18 asked again and again", 0,
                () -> used((map, number) -> map.ticksUntilBelow(1)).ticksUntilBelow(1));
        tally.due("P30 asked again and again", 0,
                () -> used((map, number) -> map.legendSpreadByTable(6)).legendSpreadByTable(6));
        tally.due("P27 asked again and again", 0,
                () -> used((map, number) -> map.coolestPeak(0, 0, 7, 7)).coolestPeak(0, 0, 7, 7));
    }
}
