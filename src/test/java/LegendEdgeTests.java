import java.util.Arrays;
import java.util.NoSuchElementException;

/** The boundary cases of promises 29 to 32 and 38. */
final class LegendEdgeTests {
    private static final Class<IllegalArgumentException> OUT_OF_RANGE = IllegalArgumentException.class;
    private static final Class<IllegalStateException> TOO_FEW = IllegalStateException.class;
    private static final Class<IndexOutOfBoundsException> NO_CELL = IndexOutOfBoundsException.class;
    private static final Class<NoSuchElementException> NO_PLACE = NoSuchElementException.class;
    private static final int[] HEATS = {300, 0, 12, 7, 500, 9};
    private final Tally tally;

    private LegendEdgeTests(Tally tally) {
        this.tally = tally;
    }

    static void run(Tally tally) {
        LegendEdgeTests tests = new LegendEdgeTests(tally);
        tests.numbersOfClasses();
        tests.asManyClassesAsCells();
        tests.fewerCellsThanClasses();
        tests.promise31Places();
        tests.promise32Cells();
        tests.promise32Rock();
        tests.promise32HottestAndCoolest();
        tests.equalGaps();
        tests.gapsOfNothing();
        tests.allCellsEqual();
        tests.allCellsDifferent();
        tests.greatestHeats();
        tests.firstException();
        tests.changesNothing();
    }

    private Edge edge(String what, Edge.Caller caller) {
        return new Edge(tally, what, caller);
    }

    private void numbersOfClasses() {
        edge("P29 classes", MapSanatorium::legendSpread).takes(1, 150).takes(6, 0)
                .takesNoneBeyond(1, 6, OUT_OF_RANGE);
        edge("P30 classes", MapSanatorium::legendSpreadByTable).takes(1, 150).takes(6, 0)
                .takesNoneBeyond(1, 6, OUT_OF_RANGE);
        edge("P31 classes", (map, classes) -> map.classBegin(classes, 0)).takes(1, 0).takes(6, 0)
                .takesNoneBeyond(1, 6, OUT_OF_RANGE);
        edge("P32 classes", (map, classes) -> map.classOf(5, 5, classes)).takes(1, 0).takes(6, 4)
                .takesNoneBeyond(1, 6, OUT_OF_RANGE);
        edge("P38 classes", MapSanatorium::describeLegend).takes(1, 5).takes(6, 29)
                .takesNoneBeyond(1, 6, OUT_OF_RANGE);
    }

    private static MapSanatorium open(int cells) {
        return Maps.inRock(Arrays.copyOf(HEATS, cells));
    }

    /** Then each cell is a class of its own. */
    private void asManyClassesAsCells() {
        String[] legends = {"300-300", "0-0,300-300", "0-0,12-12,300-300", "0-0,7-7,12-12,300-300",
            "0-0,7-7,12-12,300-300,500-500", "0-0,7-7,9-9,12-12,300-300,500-500"};
        for (int classes = 1; classes <= 6; classes++) {
            int all = classes;
            tally.due("P29 as many as cells", 0, () -> open(all).legendSpread(all));
            tally.due("P30 as many as cells", 0, () -> open(all).legendSpreadByTable(all));
            tally.due("P38 as many as cells", legends[all - 1], Maps.legend(open(all), all));
            for (int cell = 0; cell < all; cell++) {
                int x = cell;
                int place = placeOf(HEATS[cell], all);
                tally.due("P31 as many as cells", HEATS[cell], () -> open(all).classBegin(all, place));
                tally.due("P32 as many as cells", place, () -> open(all).classOf(x, 0, all));
            }
        }
    }

    private static int placeOf(int heat, int cells) {
        int place = 0;
        for (int cell = 0; cell < cells; cell++) {
            place += HEATS[cell] < heat ? 1 : 0;
        }
        return place;
    }

    private void fewerCellsThanClasses() {
        for (int classes = 1; classes <= 6; classes++) {
            int all = classes;
            Whole.Maker maker = () -> open(all - 1);
            Whole.dueThrows(tally, "P29 a cell too few", TOO_FEW, maker, map -> map.legendSpread(all));
            Whole.dueThrows(tally, "P30 a cell too few", TOO_FEW, maker, map -> map.legendSpreadByTable(all));
            Whole.dueThrows(tally, "P31 a cell too few", TOO_FEW, maker, map -> map.classBegin(all, 0));
            Whole.dueThrows(tally, "P32 a cell too few", TOO_FEW, maker, map -> map.classOf(0, 0, all));
            Whole.dueThrows(tally, "P38 a cell too few", TOO_FEW, () -> described(all - 1),
                    map -> map.describeLegend(all));
        }
    }

    private static MapSanatorium described(int cells) {
        MapSanatorium map = open(cells);
        map.describeRow(0);
        return map;
    }

    private void promise31Places() {
        for (int classes = 1; classes <= 6; classes++) {
            int all = classes;
            int hottest = classes == 1 ? 0 : 150;
            edge("P31 place of " + classes, (map, place) -> map.classBegin(all, place)).takes(0, 0)
                    .takes(classes - 1, hottest).takesNoneBeyond(0, classes - 1, NO_PLACE);
        }
    }

    private void promise32Cells() {
        edge("P32 column", (map, x) -> map.classOf(x, 5, 3)).takes(0, 0).takes(5, 1).takes(7, 0)
                .takesNoneBeyond(0, 7, NO_CELL);
        edge("P32 row", (map, y) -> map.classOf(0, y, 3)).takes(0, 0).takes(1, 2).takes(7, 0)
                .takesNoneBeyond(0, 7, NO_CELL);
    }

    private void promise32Rock() {
        Whole.dueThrows(tally, "P32 rock is not refused", UnsupportedOperationException.class,
                map -> map.classOf(2, 0, 1));
        Whole.dueThrows(tally, "P32 rock in the last cell", UnsupportedOperationException.class,
                () -> open(6), map -> map.classOf(7, 7, 6));
    }

    private void promise32HottestAndCoolest() {
        MapSanatorium map = Maps.inRock(300, 0, 12, 7, 300, 0);
        tally.due("P32 the hottest cell", 1, () -> map.classOf(0, 0, 2));
        tally.due("P32 as hot a cell", 1, () -> map.classOf(4, 0, 2));
        tally.due("P32 the coolest cell", 0, () -> map.classOf(1, 0, 2));
        tally.due("P32 the smallest heat of a class", 1, () -> map.classOf(3, 0, 3));
        tally.due("P32 the greatest heat of a class", 1, () -> map.classOf(2, 0, 3));
    }

    /** All gaps are of 10; those between cooler heats divide first. */
    private void equalGaps() {
        MapSanatorium map = Maps.inRock(50, 0, 40, 10, 30, 20);
        dueLegend("equal gaps", map, "0-50", "0-0,10-50", "0-0,10-10,20-50", "0-0,10-10,20-20,30-50",
                "0-0,10-10,20-20,30-30,40-50", "0-0,10-10,20-20,30-30,40-40,50-50");
        dueLegend("a gap greater by one", Maps.inRock(0, 10, 21, 31), "0-31", "0-10,21-31", "0-0,10-10,21-31");
        dueLegend("the greatest gap last", Maps.inRock(0, 10, 20, 31), "0-31", "0-20,31-31", "0-0,10-20,31-31");
        dueLegend("the greatest gap first", Maps.inRock(0, 11, 21, 31), "0-31", "0-0,11-31", "0-0,11-11,21-31");
    }

    /** The legends are those with one class, with two and so on. */
    private void dueLegend(String what, MapSanatorium map, String... legends) {
        for (int classes = 1; classes <= legends.length; classes++) {
            int all = classes;
            int spread = spreadOf(legends[classes - 1]);
            tally.due("P38 " + what + ", classes: " + classes, legends[classes - 1], Maps.legend(map, classes));
            tally.due("P29 " + what + ", classes: " + classes, spread, () -> map.legendSpread(all));
            tally.due("P30 " + what + ", classes: " + classes, spread, () -> map.legendSpreadByTable(all));
        }
    }

    private static int spreadOf(String legend) {
        int spread = 0;
        for (String one : legend.split(",")) {
            String[] ends = one.split("-");
            spread += Integer.parseInt(ends[1]) - Integer.parseInt(ends[0]);
        }
        return spread;
    }

    /** When only gaps of 0 are left, equal heats are divided, in the order of the numbers of their cells. */
    private void gapsOfNothing() {
        MapSanatorium map = Maps.inRock(8, 3, 8, 3, 8, 3);
        dueLegend("gaps of 0", map, "3-8", "3-3,8-8", "3-3,3-3,8-8", "3-3,3-3,3-3,8-8",
                "3-3,3-3,3-3,8-8,8-8", "3-3,3-3,3-3,8-8,8-8,8-8");
        int[][] places = {{0, 0, 0, 0, 0, 0}, {1, 0, 1, 0, 1, 0}, {2, 0, 2, 1, 2, 1}, {3, 0, 3, 1, 3, 2},
            {3, 0, 4, 1, 4, 2}, {3, 0, 4, 1, 5, 2}};
        for (int classes = 1; classes <= 6; classes++) {
            int all = classes;
            for (int cell = 0; cell < 6; cell++) {
                int x = cell;
                tally.due("P32 cell " + x + " of classes: " + all, places[all - 1][x],
                        () -> map.classOf(x, 0, all));
            }
        }
    }

    private void allCellsEqual() {
        MapSanatorium map = new MapSanatorium();
        for (int cell = 0; cell < 64; cell++) {
            int x = cell % 8;
            int y = cell / 8;
            int place = Math.min(cell, 5);
            tally.due("P32 cell " + cell + " of equal ones", place, () -> map.classOf(x, y, 6));
        }
        tally.due("P38 equal ones", "0-0,0-0,0-0,0-0,0-0,0-0", Maps.legend(map, 6));
    }

    private void allCellsDifferent() {
        MapSanatorium map = new MapSanatorium();
        for (int cell = 0; cell < 64; cell++) {
            map.heatUp(cell % 8, cell / 8, 64 - cell);
        }
        map.heatUp(0, 0, 1);
        dueLegend("sixty-four classes would fit", map, "1-65", "1-63,65-65", "1-1,2-63,65-65",
                "1-1,2-2,3-63,65-65", "1-1,2-2,3-3,4-63,65-65", "1-1,2-2,3-3,4-4,5-63,65-65");
        tally.due("P32 the last cell is the coolest", 0, () -> map.classOf(7, 7, 6));
        tally.due("P32 the first cell is the hottest", 5, () -> map.classOf(0, 0, 6));
    }

    private void greatestHeats() {
        MapSanatorium map = Maps.inRock(0, 0, 0);
        Maps.heatMuch(map, 1, 0, 9999);
        dueLegend("the greatest heat", map, "0-9999", "0-0,9999-9999", "0-0,0-0,9999-9999");
        tally.due("P38 a heat above it", "0-656,18817-18817", Maps.legend(Maps.withGreatRelapse(), 2));
    }

    private void firstException() {
        Whole.dueThrows(tally, "P29 classes before cells", OUT_OF_RANGE, Maps::inRock, map -> map.legendSpread(7));
        Whole.dueThrows(tally, "P30 classes before cells", OUT_OF_RANGE, Maps::inRock,
                map -> map.legendSpreadByTable(7));
        Whole.dueThrows(tally, "P38 classes before cells", OUT_OF_RANGE, Maps::inRock,
                map -> map.describeLegend(7));
        Whole.dueThrows(tally, "P31 classes before cells and place", OUT_OF_RANGE, Maps::inRock,
                map -> map.classBegin(0, -1));
        Whole.dueThrows(tally, "P31 classes before place", OUT_OF_RANGE, map -> map.classBegin(7, 7));
        Whole.dueThrows(tally, "P31 cells before place", TOO_FEW, () -> open(1), map -> map.classBegin(2, 2));
        Whole.dueThrows(tally, "P32 cell before classes", NO_CELL, map -> map.classOf(8, 0, 0));
        Whole.dueThrows(tally, "P32 cell before cells", NO_CELL, Maps::inRock, map -> map.classOf(0, 8, 1));
        Whole.dueThrows(tally, "P32 classes before cells", OUT_OF_RANGE, Maps::inRock, map -> map.classOf(0, 0, 7));
        Whole.dueThrows(tally, "P32 classes before rock", OUT_OF_RANGE, map -> map.classOf(2, 0, 0));
        Whole.dueThrows(tally, "P32 cells before rock", TOO_FEW, () -> open(5), map -> map.classOf(7, 7, 6));
    }

    private void changesNothing() {
        Whole.dueQuestion(tally, "P29", 0, map -> map.legendSpread(3));
        Whole.dueQuestion(tally, "P30", 0, map -> map.legendSpreadByTable(3));
        Whole.dueQuestion(tally, "P31", 150, map -> map.classBegin(3, 2));
        Whole.dueQuestion(tally, "P32", 2, map -> map.classOf(1, 0, 3));
        Whole.dueSame(tally, "P38 changes the line alone", Maps::used,
                () -> Whole.after(Maps::used, map -> map.describeLegend(3)), Whole.LINE);
    }
}
