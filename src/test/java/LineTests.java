/** Promises 37 to 42. */
final class LineTests {
    private final Tally tally;

    private LineTests(Tally tally) {
        this.tally = tally;
    }

    static void run(Tally tally) {
        LineTests tests = new LineTests(tally);
        tests.rows();
        tests.lines();
        tests.means();
        tests.shares();
        tests.consistency();
    }

    private void rows() {
        MapSanatorium map = new MapSanatorium();
        tally.due("P37 length", 8, () -> map.describeRow(7));
        tally.due("P37 plain", "........", Maps.row(map, 7));
        map.setGround(1, 2, ':');
        map.setGround(2, 2, '~');
        map.setGround(3, 2, '#');
        map.setGround(4, 2, ':');
        map.heatUp(4, 2, 1);
        map.heatUp(5, 2, 99);
        map.heatUp(6, 2, 100);
        map.heatUp(7, 2, 899);
        tally.due("P37 grounds and heats", ".:~#0018", Maps.row(map, 2));
        map.heatUp(7, 2, 1);
        map.heatUp(6, 2, 899);
        map.heatUp(5, 2, 200);
        Maps.heatMuch(map, 0, 2, 9999);
        tally.due("P37 hundreds", "9:~#0299", Maps.row(map, 2));
        tally.due("P37 another row", "........", Maps.row(map, 3));
        MapSanatorium embers = Maps.withEmbersOnly();
        tally.due("P37 embers", "e1#.....", Maps.row(embers, 0));
        embers.heatUp(0, 0, 5);
        tally.due("P37 embers and heat", "01#.....", Maps.row(embers, 0));
        tally.due("P37 beside", "1#......", Maps.row(embers, 1));
    }

    private void lines() {
        MapSanatorium map = new MapSanatorium();
        tally.dueThrows("P39 empty", IndexOutOfBoundsException.class, () -> map.lineAt(0));
        map.describeRow(0);
        tally.due("P39 first", '.', () -> map.lineAt(0));
        tally.due("P39 last", '.', () -> map.lineAt(7));
        for (int index : new int[] {-1, 8, Integer.MIN_VALUE, Integer.MAX_VALUE}) {
            tally.dueThrows("P39 no index", IndexOutOfBoundsException.class, () -> map.lineAt(index));
        }
        tally.due("P38 shorter", 3, () -> map.describeLegend(1));
        tally.due("P39 shorter", '-', () -> map.lineAt(1));
        tally.dueThrows("P39 behind the shorter one", IndexOutOfBoundsException.class, () -> map.lineAt(3));
        tally.due("P38 longer", 23, () -> map.describeLegend(6));
        tally.due("P39 longer", ',', () -> map.lineAt(19));
        map.heatUp(0, 0, 500);
        map.save();
        map.undo();
        map.restore();
        tally.due("P39 stays until the next one", "0-0,0-0,0-0,0-0,0-0,0-0", Maps.line(map, 23));
        tally.dueThrows("P39 and no longer", IndexOutOfBoundsException.class, () -> map.lineAt(23));
    }

    private void dueMean(String what, double want, MapSanatorium map) {
        tally.due(what, Double.toString(want), Double.toString(map.meanHeat()));
    }

    private void means() {
        MapSanatorium map = Maps.inRock(10, 0, 0);
        dueMean("P40 of three", 10.0 / 3.0, map);
        map.setGround(1, 0, '#');
        dueMean("P40 of two", 5.0, map);
        dueMean("P40 cold", 0.0, new MapSanatorium());
        dueMean("P40 embers are no heat", 300.0 / 61.0, Maps.withEmbersOnly());
        MapSanatorium rock = Maps.inRock();
        tally.dueThrows("P40 all rock", ArithmeticException.class, () -> (long) rock.meanHeat());
    }

    private void dueShare(String what, float want, MapSanatorium map, int level) {
        tally.due(what, Float.toString(want), Float.toString(map.levelShare(level)));
    }

    private void shares() {
        MapSanatorium map = Maps.pictured(20, "#.#", "", "", "", "", "", "", ".......#");
        dueShare("P41 three", 3f / 64f, map, 20);
        dueShare("P41 least level", 3f / 64f, map, 1);
        dueShare("P41 none", 0f, map, 21);
        dueShare("P41 greatest level", 0f, map, 9999);
        map.setGround(5, 5, '#');
        dueShare("P41 rock counts among the 64", 3f / 64f, map, 20);
        for (int cell = 0; cell < 64; cell++) {
            if (cell != 45) {
                map.heatUp(cell % 8, cell / 8, 1);
            }
        }
        dueShare("P41 all but the rock", 63f / 64f, map, 1);
    }

    private void consistency() {
        tally.due("P42 cold", 1, () -> Tally.truth(new MapSanatorium().isConsistent()));
        tally.due("P42 all rock", 1, () -> Tally.truth(Maps.inRock().isConsistent()));
        tally.due("P42 three cells", 1, () -> Tally.truth(Maps.inRock(5, 700, 300).isConsistent()));
        tally.due("P42 four cells", 1, () -> Tally.truth(Maps.inRock(5, 700, 300, 1).isConsistent()));
        tally.due("P42 embers", 1, () -> Tally.truth(Maps.withEmbersOnly().isConsistent()));
        MapSanatorium map = Maps.withEmbersOnly();
        map.save();
        map.describeRow(0);
        map.isConsistent();
        tally.due("P42 leaves the line", "e1#.....", Maps.line(map, 8));
        tally.due("P42 is no change", 7, map::undo);
    }
}
