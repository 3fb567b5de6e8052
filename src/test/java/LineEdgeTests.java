/** The boundary cases of promises 37, 39, 40 and 42. */
final class LineEdgeTests {
    private static final Class<IndexOutOfBoundsException> NO_INDEX = IndexOutOfBoundsException.class;
    private final Tally tally;

    private LineEdgeTests(Tally tally) {
        this.tally = tally;
    }

    static void run(Tally tally) {
        LineEdgeTests tests = new LineEdgeTests(tally);
        tests.promise37Rows();
        tests.promise37Hundreds();
        tests.promise37Grounds();
        tests.promise37Embers();
        tests.promise37LeavesAllElse();
        tests.promise39EmptyLine();
        tests.promise39Indices();
        tests.promise39LastLine();
        tests.promise40Means();
        tests.promise40AllRock();
        tests.promise42FewCells();
        tests.promise42Levels();
        tests.promise42Ways();
        tests.promise42ChangesNothing();
    }

    private void promise37Rows() {
        new Edge(tally, "P37 row", MapSanatorium::describeRow).takes(0, 8).takes(7, 8)
                .takesNoneBeyond(0, 7, NO_INDEX);
        MapSanatorium map = new MapSanatorium();
        map.setGround(7, 7, '#');
        tally.due("P37 the last row", ".......#", Maps.row(map, 7));
        tally.due("P37 the first row", "........", Maps.row(map, 0));
    }

    private void promise37Hundreds() {
        int[] heats = {1, 99, 100, 199, 200, 299, 499, 500, 699, 700, 799, 800, 899, 900, 999, 1000, 1900, 9999};
        String digits = "001122456778899999";
        for (int index = 0; index < heats.length; index++) {
            MapSanatorium map = new MapSanatorium();
            map.setGround(7, 4, ':');
            Maps.heatMuch(map, 7, 4, heats[index]);
            tally.due("P37 a heat of " + heats[index], "......." + digits.charAt(index), Maps.row(map, 4));
        }
        tally.due("P37 above the greatest heat", '9', () -> Maps.row(Maps.withGreatRelapse(), 3).charAt(3));
    }

    private void promise37Grounds() {
        MapSanatorium map = new MapSanatorium();
        map.setGround(0, 3, '#');
        map.setGround(1, 3, ':');
        map.setGround(2, 3, '~');
        tally.due("P37 cold grounds", "#:~.....", Maps.row(map, 3));
    }

    private void promise37Embers() {
        MapSanatorium map = Maps.withEmbersOnly();
        tally.due("P37 embers but no heat", 'e', () -> Maps.row(map, 0).charAt(0));
        map.heatUp(0, 0, 1);
        tally.due("P37 embers and a heat of 1", '0', () -> Maps.row(map, 0).charAt(0));
        map.heatUp(0, 0, 899);
        tally.due("P37 embers and a heat of 900", '9', () -> Maps.row(map, 0).charAt(0));
    }

    private void promise37LeavesAllElse() {
        Whole.dueSame(tally, "P37 changes the line alone", Maps::used,
                () -> Whole.after(Maps::used, map -> map.describeRow(5)), Whole.LINE);
    }

    private void promise39EmptyLine() {
        for (int index : new int[] {-1, 0, 1, Integer.MIN_VALUE, Integer.MAX_VALUE}) {
            Whole.dueThrows(tally, "P39 an empty line has no " + index, NO_INDEX, MapSanatorium::new,
                    map -> map.lineAt(index));
        }
    }

    private void promise39Indices() {
        new Edge(tally, "P39 index", MapSanatorium::lineAt).takes(0, 'e').takes(1, '1').takes(7, '.')
                .takesNoneBeyond(0, 7, NO_INDEX);
        for (int classes = 1; classes <= 6; classes++) {
            MapSanatorium map = new MapSanatorium();
            int length = map.describeLegend(classes);
            tally.due("P38 length", 4 * classes - 1, () -> length);
            tally.due("P39 the last one", '0', () -> map.lineAt(length - 1));
            tally.dueThrows("P39 behind the last one", NO_INDEX, () -> map.lineAt(length));
        }
        Whole.dueQuestion(tally, "P39 reading", 'e', map -> map.lineAt(0));
    }

    private void promise39LastLine() {
        MapSanatorium map = Maps.used();
        map.describeLegend(6);
        map.describeRow(0);
        tally.due("P37 replaces a longer line", "e1#.....", Whole.lineOf(map));
        map.describeLegend(1);
        tally.due("P38 replaces a longer line", "0-150", Whole.lineOf(map));
        map.describeRow(1);
        tally.due("P37 replaces a shorter line", "1#......", Whole.lineOf(map));
        map.pass(1);
        map.undo();
        map.restore();
        tally.due("P39 is neither undone nor restored", "1#......", Whole.lineOf(map));
    }

    private void promise40Means() {
        dueMean("all cold", 0.0, new MapSanatorium());
        dueMean("a heat of 1 in sixty-four cells", 1.0 / 64.0, Maps.pictured(1, "#"));
        dueMean("sixty-one cells", 340.0 / 61.0, Maps.used());
        dueMean("a single cell", 9.0, Maps.inRock(9));
        dueMean("three cells", 10.0 / 3.0, Maps.inRock(4, 3, 3));
        MapSanatorium hot = Maps.inRock(0, 0, 0);
        Maps.heatMuch(hot, 0, 0, 9999);
        Maps.heatMuch(hot, 1, 0, 9999);
        Maps.heatMuch(hot, 2, 0, 9998);
        dueMean("the greatest heats", 29996.0 / 3.0, hot);
        Whole.dueQuestion(tally, "P40", 5, map -> (long) map.meanHeat());
    }

    private void dueMean(String what, double want, MapSanatorium map) {
        tally.due("P40 " + what, Double.toString(want), Double.toString(map.meanHeat()));
    }

    private void promise40AllRock() {
        Whole.dueThrows(tally, "P40 all rock", ArithmeticException.class, Maps::inRock,
                map -> (long) map.meanHeat());
    }

    private void promise42FewCells() {
        for (int cells = 0; cells <= 5; cells++) {
            int[] heats = new int[cells];
            for (int cell = 0; cell < cells; cell++) {
                heats[cell] = 999 - 200 * cell;
            }
            tally.due("P42 open cells: " + cells, 1, () -> Tally.truth(Maps.inRock(heats).isConsistent()));
        }
    }

    private void promise42Levels() {
        for (int level : new int[] {1, 100, 300, 500, 700}) {
            for (int heat : new int[] {level - 1, level}) {
                MapSanatorium map = new MapSanatorium();
                for (int cell : new int[] {0, 1, 2, 8, 10, 16, 17, 18, 27, 63}) {
                    Maps.heatMuch(map, cell % 8, cell / 8, heat);
                }
                tally.due("P42 heats of " + heat, 1, () -> Tally.truth(map.isConsistent()));
            }
        }
        tally.due("P42 a great relapse", 1, () -> Tally.truth(Maps.withGreatRelapse().isConsistent()));
    }

    /** The ways begin in cell 0, whose heat or rock its neighbours do not share. */
    private void promise42Ways() {
        tally.due("P42 cell 0 alone is hot", 1, () -> Tally.truth(Maps.pictured(50, "#").isConsistent()));
        tally.due("P42 cell 1 alone is hot", 1, () -> Tally.truth(Maps.pictured(50, ".#").isConsistent()));
        tally.due("P42 the last cell alone is hot", 1,
                () -> Tally.truth(Maps.pictured(50, "", "", "", "", "", "", "", ".......#").isConsistent()));
        for (int rock : new int[] {0, 1, 56, 63}) {
            MapSanatorium map = new MapSanatorium();
            map.heatUp(4, 4, 9);
            map.setGround(rock % 8, rock / 8, '#');
            tally.due("P42 cell " + rock + " alone is rock", 1, () -> Tally.truth(map.isConsistent()));
        }
    }

    private void promise42ChangesNothing() {
        Whole.dueQuestion(tally, "P42", 1, map -> Tally.truth(map.isConsistent()));
    }
}
