/** The boundary cases of promises 43 to 45. */
final class ChangeEdgeTests {
    private static final Class<IllegalStateException> NONE = IllegalStateException.class;
    private static final String[] KINDS = {"setGround", "heatUp", "setBorder", "pass", "run"};
    private final Tally tally;

    private ChangeEdgeTests(Tally tally) {
        this.tally = tally;
    }

    static void run(Tally tally) {
        ChangeEdgeTests tests = new ChangeEdgeTests(tally);
        tests.promise43NoChange();
        tests.promise43UpToTwentyChanges();
        tests.promise43TheNinthChangeOfEachKind();
        tests.promise43NothingDiffers();
        tests.promise43UndoneAndDoneAgain();
        tests.promise43EverythingComesBack();
        tests.promise43WhatIsNotUndone();
        tests.promise44IsNoChange();
        tests.promise44ReplacesTheEarlierOne();
        tests.promise45NoSnapshot();
        tests.promise45NoChangeBehindIt();
        tests.promise45KeepsTheSnapshot();
        tests.promise45EverythingComesBack();
        tests.promise45WhatIsNotRestored();
        tests.promises43And45RelapsesOfBefore();
    }

    private void change(MapSanatorium map, String kind) {
        switch (kind) {
            case "setGround":
                map.setGround(4, 4, ':');
                break;
            case "heatUp":
                map.heatUp(1, 0, 848);
                break;
            case "setBorder":
                map.setBorder(1, 5);
                break;
            case "pass":
                map.pass(1);
                break;
            default:
                Maps.write(map, "heat 10+848;pass 1;ground 66~");
                map.run();
                break;
        }
    }

    private void promise43NoChange() {
        Whole.dueThrows(tally, "P43 a new object", NONE, MapSanatorium::new, MapSanatorium::undo);
        MapSanatorium map = new MapSanatorium();
        map.save();
        map.describeRow(0);
        map.append('x');
        Whole.answerOf(map::run);
        Whole.answerOf(() -> map.heatUp(0, 0, 0));
        tally.dueThrows("P43 calls that are no changes", NONE, map::undo);
        map.pass(1);
        tally.due("P43 a change", 0, map::undo);
        Whole.dueThrows(tally, "P43 all is undone", NONE, ChangeEdgeTests::allUndone, MapSanatorium::undo);
    }

    private static MapSanatorium allUndone() {
        MapSanatorium map = Maps.used();
        for (int call = 0; call < 8; call++) {
            map.undo();
        }
        return map;
    }

    private void promise43UpToTwentyChanges() {
        for (int changes = 0; changes <= 20; changes++) {
            MapSanatorium map = new MapSanatorium();
            for (int call = 0; call < changes; call++) {
                map.heatUp(4, 4, 1);
            }
            int kept = Math.min(changes, 8);
            for (int left = kept - 1; left >= 0; left--) {
                tally.due("P43 left of " + changes, left, map::undo);
                tally.due("P43 the latest first of " + changes, changes - kept + left, () -> map.heatAt(4, 4));
            }
            tally.dueThrows("P43 no more of " + changes, NONE, map::undo);
            tally.due("P43 what stays of " + changes, changes - kept, () -> map.heatAt(4, 4));
        }
    }

    private void promise43TheNinthChangeOfEachKind() {
        for (String kind : KINDS) {
            MapSanatorium map = new MapSanatorium();
            map.setGround(7, 7, '#');
            for (int call = 0; call < 7; call++) {
                change(map, kind);
            }
            for (int left = 7; left >= 0; left--) {
                tally.due("P43 eight changes with " + kind, left, map::undo);
            }
            tally.due("P43 the eighth can be undone: " + kind, '.', () -> map.groundAt(7, 7));
            map.setGround(7, 7, '#');
            for (int call = 0; call < 8; call++) {
                change(map, kind);
            }
            for (int left = 7; left >= 0; left--) {
                tally.due("P43 nine changes with " + kind, left, map::undo);
            }
            tally.dueThrows("P43 the ninth can not: " + kind, NONE, map::undo);
            tally.due("P43 so it stays: " + kind, '#', () -> map.groundAt(7, 7));
        }
    }

    private void promise43NothingDiffers() {
        MapSanatorium map = new MapSanatorium();
        map.setGround(3, 3, '.');
        map.setBorder(3, 0);
        Maps.write(map, "border 0=0");
        map.run();
        tally.due("P43 a run that sets what is set", 2, map::undo);
        tally.due("P43 a border that is set", 1, map::undo);
        tally.due("P43 a ground that is set", 0, map::undo);
        map.setGround(3, 3, '#');
        map.setGround(3, 3, '#');
        tally.due("P43 rock on rock", 1, map::undo);
        tally.due("P43 leaves the rock", '#', () -> map.groundAt(3, 3));
    }

    private void promise43UndoneAndDoneAgain() {
        MapSanatorium map = new MapSanatorium();
        for (int round = 0; round < 5; round++) {
            for (int call = 0; call < 8; call++) {
                map.heatUp(2, 2, 1);
            }
            for (int left = 7; left >= 3; left--) {
                tally.due("P43 left in round " + round, left, map::undo);
            }
            tally.due("P43 three stay of each round", 3 * round + 3, () -> map.heatAt(2, 2));
        }
        for (int left = 2; left >= 0; left--) {
            tally.due("P43 the three of the last round", left, map::undo);
        }
        tally.dueThrows("P43 none of the rounds before", NONE, map::undo);
        tally.due("P43 which stay", 12, () -> map.heatAt(2, 2));
    }

    private void promise43EverythingComesBack() {
        for (String kind : KINDS) {
            MapSanatorium map = Maps.usedWithoutText();
            String before = Whole.readings(map);
            change(map, kind);
            tally.due("P43 something differs: " + kind, 0, () -> Tally.truth(before.equals(Whole.readings(map))));
            map.undo();
            tally.due("P43 all comes back: " + kind, before, Whole.readings(map));
        }
        MapSanatorium run = Maps.usedWithoutText();
        change(run, "run");
        tally.due("P17 the run brings a relapse", 1, run::relapses);
        run.undo();
        tally.due("P43 which is undone", 0, run::relapses);
    }

    private void promise43WhatIsNotUndone() {
        MapSanatorium map = new MapSanatorium();
        map.heatUp(0, 0, 5);
        leaveMuch(map);
        map.save();
        map.undo();
        dueLeft("P43", map);
        tally.due("P43 the snapshot stays", 0, map::restore);
        tally.due("P43 with what was undone", 5, map::allHeat);
    }

    /** Leaves a refusal, an error position, a failed command, a line and a command text of three ticks. */
    private static void leaveMuch(MapSanatorium map) {
        Whole.answerOf(() -> map.setGround(0, 0, '#'));
        Maps.write(map, "!");
        Whole.answerOf(map::run);
        Maps.write(map, "pass 0");
        Whole.answerOf(map::run);
        map.describeLegend(1);
        Maps.write(map, "pass 3");
    }

    private void dueLeft(String what, MapSanatorium map) {
        tally.due(what + " the refusal stays", 2, map::refusalReason);
        tally.due(what + " its detail stays", 5, map::refusalDetail);
        tally.due(what + " the error position stays", 0, map::errorPosition);
        tally.due(what + " the failed command stays", 0, map::failedCommand);
        tally.due(what + " the line stays", "0-5", Whole.lineOf(map));
        tally.due(what + " the command text stays", 1, map::run);
        tally.due(what + " with its last character", 3, map::ticks);
    }

    private void promise44IsNoChange() {
        tally.due("P44 ticks", 2, () -> Maps.used().save());
        MapSanatorium map = new MapSanatorium();
        tally.due("P44 no tick", 0, map::save);
        tally.dueThrows("P44 is no change", NONE, map::undo);
        map.heatUp(0, 0, 1);
        map.save();
        tally.due("P44 leaves the changes", 0, map::undo);
        tally.due("P43 which are undone", 0, map::allHeat);
        String before = Whole.readings(Maps.used());
        tally.due("P44 changes no answer", before, Whole.readings(Whole.after(Maps::used, MapSanatorium::save)));
    }

    private void promise44ReplacesTheEarlierOne() {
        MapSanatorium map = new MapSanatorium();
        map.save();
        map.heatUp(3, 3, 6);
        map.save();
        map.heatUp(3, 3, 6);
        map.restore();
        tally.due("P45 the later snapshot", 6, () -> map.heatAt(3, 3));
        map.pass(4);
        tally.due("P44 ticks that have passed", 4, map::save);
        map.pass(1);
        tally.due("P45 ticks of the snapshot", 4, map::restore);
    }

    private void promise45NoSnapshot() {
        Whole.dueThrows(tally, "P45 no snapshot of a new object", NONE, MapSanatorium::new, MapSanatorium::restore);
        Whole.dueThrows(tally, "P45 no snapshot behind changes", NONE, () -> {
            MapSanatorium map = Maps.withEmbersOnly();
            Maps.write(map, "pass 2");
            return map;
        }, MapSanatorium::restore);
    }

    private void promise45NoChangeBehindIt() {
        MapSanatorium map = Maps.used();
        tally.due("P45 ticks of it", 2, map::restore);
        Whole.dueThrows(tally, "P45 no change to undo", NONE, () -> Whole.after(Maps::used, MapSanatorium::restore),
                MapSanatorium::undo);
        for (int call = 0; call < 9; call++) {
            map.heatUp(4, 4, 1);
        }
        for (int left = 7; left >= 0; left--) {
            tally.due("P45 later changes can be undone", left, map::undo);
        }
        tally.dueThrows("P45 no more than eight", NONE, map::undo);
        tally.due("P45 so one stays", 1, () -> map.heatAt(4, 4));
        MapSanatorium few = new MapSanatorium();
        few.save();
        few.restore();
        tally.dueThrows("P45 a restore is no change", NONE, few::undo);
    }

    private void promise45KeepsTheSnapshot() {
        MapSanatorium map = Maps.usedWithoutText();
        map.restore();
        String restored = Whole.readings(map);
        for (String kind : KINDS) {
            change(map, kind);
        }
        map.restore();
        tally.due("P45 once more", restored, Whole.readings(map));
    }

    private void promise45EverythingComesBack() {
        for (String kind : KINDS) {
            MapSanatorium map = Maps.usedWithoutText();
            map.save();
            String before = Whole.readings(map);
            change(map, kind);
            tally.due("P45 something differs: " + kind, 0, () -> Tally.truth(before.equals(Whole.readings(map))));
            tally.due("P45 ticks: " + kind, 2, map::restore);
            tally.due("P45 all comes back: " + kind, before, Whole.readings(map));
        }
    }

    private void promise45WhatIsNotRestored() {
        MapSanatorium map = new MapSanatorium();
        map.save();
        map.heatUp(0, 0, 5);
        leaveMuch(map);
        map.restore();
        dueLeft("P45", map);
    }

    /** What came before the change or the snapshot stays: relapses, ticks and what left by the borders. */
    private void promises43And45RelapsesOfBefore() {
        MapSanatorium map = Maps.withEmbersOnBothSides();
        map.pass(1);
        String before = Whole.readings(map);
        tally.due("P44 ticks", 82, map::save);
        map.pass(20);
        map.undo();
        tally.due("P43 relapses of before", 2, map::relapses);
        tally.due("P43 all of before", before, Whole.readings(map));
        map.setBorder(0, 0);
        map.pass(20);
        tally.due("P45 ticks of before", 82, map::restore);
        tally.due("P45 relapses of before", 2, map::relapses);
        tally.due("P45 all of before", before, Whole.readings(map));
    }
}
