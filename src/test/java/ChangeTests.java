/** Promises 43 to 45. */
final class ChangeTests {
    private final Tally tally;

    private ChangeTests(Tally tally) {
        this.tally = tally;
    }

    static void run(Tally tally) {
        ChangeTests tests = new ChangeTests(tally);
        tests.kindsOfChanges();
        tests.everythingComesBack();
        tests.saving();
        tests.restoring();
    }

    private void kindsOfChanges() {
        MapSanatorium map = new MapSanatorium();
        map.setGround(0, 0, '.');
        map.setBorder(0, 0);
        map.pass(1);
        map.heatUp(0, 0, 1);
        Maps.write(map, "ground 00.;border 0=0");
        map.run();
        tally.due("P43 a run of two is one", 4, map::undo);
        tally.due("P43 what it left", 1, () -> map.heatAt(0, 0));
        tally.due("P43 heat", 3, map::undo);
        tally.due("P43 no heat", 0, () -> map.heatAt(0, 0));
        tally.due("P43 tick", 2, map::undo);
        tally.due("P43 no tick", 0, map::ticks);
        tally.due("P43 border as it was", 1, map::undo);
        tally.due("P43 ground as it was", 0, map::undo);
        tally.dueThrows("P43 no more", IllegalStateException.class, map::undo);
    }

    private void everythingComesBack() {
        MapSanatorium map = Maps.withEmbersOnly();
        map.setBorder(2, 44);
        map.heatUp(1, 0, 848);
        map.pass(3);
        tally.due("P17 relapsed", 1, map::relapses);
        map.undo();
        tally.due("P43 relapses", 0, map::relapses);
        tally.due("P43 ticks", 2, map::ticks);
        tally.due("P43 embers", 100, () -> map.embersAt(0, 0));
        tally.due("P43 heat", 998, () -> map.heatAt(1, 0));
        tally.due("P43 lost", 150, () -> map.lostBy(0));
        tally.due("P43 accounts", 1248, map::allHeatByAccounts);
        map.undo();
        tally.due("P43 what was added", 400, map::allHeatByAccounts);
        map.undo();
        tally.due("P43 border", 0, () -> map.border(2));
        map.undo();
        map.undo();
        tally.due("P43 ground", '#', () -> map.groundAt(0, 1));
    }

    private void saving() {
        MapSanatorium map = Maps.withEmbersOnly();
        tally.due("P44 ticks", 2, map::save);
        map.setBorder(2, 44);
        map.setGround(7, 7, ':');
        map.heatUp(1, 0, 848);
        map.pass(3);
        tally.due("P45 ticks", 2, map::restore);
        tally.due("P45 relapses", 0, map::relapses);
        tally.due("P45 passed", 2, map::ticks);
        tally.due("P45 embers", 100, () -> map.embersAt(0, 0));
        tally.due("P45 heat", 150, () -> map.heatAt(1, 0));
        tally.due("P45 lost", 150, () -> map.lostBy(3));
        tally.due("P45 accounts", 400, map::allHeatByAccounts);
        tally.due("P45 sum", 400, map::allHeat);
        tally.due("P45 border", 0, () -> map.border(2));
        tally.due("P45 ground", '.', () -> map.groundAt(7, 7));
        tally.due("P45 water", '~', () -> map.groundAt(0, 1));
        map.pass(5);
        tally.due("P44 replaces the earlier one", 7, map::save);
        map.pass(1);
        tally.due("P45 the later one", 7, map::restore);
    }

    private void restoring() {
        MapSanatorium map = new MapSanatorium();
        map.heatUp(0, 0, 5);
        tally.dueThrows("P45 none", IllegalStateException.class, map::restore);
        tally.due("P45 nothing happened", 5, map::allHeat);
        map.save();
        map.heatUp(0, 0, 5);
        tally.due("P44 leaves the changes", 1, map::undo);
        tally.due("P43 behind the snapshot", 0, map::undo);
        tally.due("P43 before it", 0, map::allHeat);
        tally.due("P45 the snapshot stays", 0, map::restore);
        tally.due("P45 its heat", 5, map::allHeat);
        tally.dueThrows("P45 no change to undo", IllegalStateException.class, map::undo);
        map.heatUp(0, 0, 5);
        tally.due("P45 later ones can be undone", 0, map::undo);
        map.heatUp(0, 0, 7);
        map.pass(1);
        tally.due("P45 again", 0, map::restore);
        tally.due("P45 the same", 5, map::allHeat);
        tally.dueThrows("P45 again no change", IllegalStateException.class, map::undo);
    }
}
