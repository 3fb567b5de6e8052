import java.util.NoSuchElementException;

/** The boundary cases of promises 27 and 28. */
final class WayEdgeTests {
    private static final Class<IndexOutOfBoundsException> NO_CELL = IndexOutOfBoundsException.class;
    private static final Class<NoSuchElementException> NO_WAY = NoSuchElementException.class;
    private final Tally tally;

    private WayEdgeTests(Tally tally) {
        this.tally = tally;
    }

    static void run(Tally tally) {
        WayEdgeTests tests = new WayEdgeTests(tally);
        tests.cells();
        tests.firstException();
        tests.oneCell();
        tests.rockAtAnEnd();
        tests.noWay();
        tests.onlyRock();
        tests.neighboursAtTheEdge();
        tests.greatestHeats();
        tests.longestWay();
        tests.changesNothing();
    }

    private void cells() {
        dueEdge("P27 first column", (map, x) -> map.coolestPeak(x, 3, 5, 5));
        dueEdge("P27 first row", (map, y) -> map.coolestPeak(3, y, 5, 5));
        dueEdge("P27 last column", (map, x) -> map.coolestPeak(5, 5, x, 3));
        dueEdge("P27 last row", (map, y) -> map.coolestPeak(5, 5, 3, y));
        dueEdge("P28 first column", (map, x) -> map.coolestPeakByTrying(x, 3, 5, 5));
        dueEdge("P28 first row", (map, y) -> map.coolestPeakByTrying(3, y, 5, 5));
        dueEdge("P28 last column", (map, x) -> map.coolestPeakByTrying(5, 5, x, 3));
        dueEdge("P28 last row", (map, y) -> map.coolestPeakByTrying(5, 5, 3, y));
    }

    private void dueEdge(String what, Edge.Caller caller) {
        new Edge(tally, what, caller).takes(0, 40).takes(7, 40).takesNoneBeyond(0, 7, NO_CELL);
    }

    /** (2, 0) is rock, so that there is no way from it or to it. */
    private void firstException() {
        Whole.dueThrows(tally, "P27 no last cell before no way", NO_CELL, map -> map.coolestPeak(2, 0, 8, 0));
        Whole.dueThrows(tally, "P27 no first cell before no way", NO_CELL, map -> map.coolestPeak(0, 8, 2, 0));
        Whole.dueThrows(tally, "P27 neither cell", NO_CELL, map -> map.coolestPeak(-1, 0, 0, -1));
        Whole.dueThrows(tally, "P28 no last cell before no way", NO_CELL,
                map -> map.coolestPeakByTrying(2, 0, 0, -1));
        Whole.dueThrows(tally, "P28 no first cell before no way", NO_CELL,
                map -> map.coolestPeakByTrying(-1, 0, 2, 0));
        Whole.dueThrows(tally, "P28 neither cell", NO_CELL, map -> map.coolestPeakByTrying(8, 0, 0, 8));
    }

    private void oneCell() {
        MapSanatorium map = Maps.used();
        for (int cell = 0; cell < 64; cell++) {
            int x = cell % 8;
            int y = cell / 8;
            if (map.groundAt(x, y) == '#') {
                dueNone("the same rock " + cell, x, y, x, y);
            } else {
                due("the same cell " + cell, Maps.used(), map.heatAt(x, y), x, y, x, y);
            }
        }
    }

    private void rockAtAnEnd() {
        dueNone("from rock", 2, 0, 7, 7);
        dueNone("to rock", 7, 7, 2, 0);
        dueNone("from rock to its neighbour", 2, 0, 3, 0);
        dueNone("to rock from its neighbour", 3, 0, 2, 0);
        dueNone("from rock to rock", 2, 0, 1, 1);
    }

    /** Rock shuts in the cells (0, 0), (1, 0) and (0, 1), whose ways lead across corners only. */
    private void noWay() {
        dueNone("out of the corner", 0, 1, 7, 7);
        dueNone("into the corner", 7, 7, 1, 0);
        due("within the corner", Maps.used(), 150, 1, 0, 0, 1);
    }

    private void dueNone(String what, int fromX, int fromY, int toX, int toY) {
        Whole.dueThrows(tally, "P27 " + what, NO_WAY, map -> map.coolestPeak(fromX, fromY, toX, toY));
        Whole.dueThrows(tally, "P28 " + what, NO_WAY, map -> map.coolestPeakByTrying(fromX, fromY, toX, toY));
    }

    private void onlyRock() {
        Whole.dueThrows(tally, "P27 all is rock", NO_WAY, Maps::inRock, map -> map.coolestPeak(0, 0, 7, 7));
        Whole.dueThrows(tally, "P28 all is rock", NO_WAY, Maps::inRock, map -> map.coolestPeakByTrying(0, 0, 7, 7));
        due("all but one cell is rock", Maps.inRock(6), 6, 0, 0, 0, 0);
    }

    /** Open cells are the last two of a row and the first two of the next. */
    private void neighboursAtTheEdge() {
        for (int y = 0; y < 7; y++) {
            int row = y;
            Whole.Maker maker = () -> twoAndTwo(row);
            Whole.dueThrows(tally, "P27 no way to the next row", NO_WAY, maker,
                    map -> map.coolestPeak(7, row, 0, row + 1));
            Whole.dueThrows(tally, "P28 no way to the next row", NO_WAY, maker,
                    map -> map.coolestPeakByTrying(7, row, 0, row + 1));
        }
    }

    private static MapSanatorium twoAndTwo(int y) {
        MapSanatorium map = Maps.inRock();
        map.setGround(6, y, '.');
        map.setGround(7, y, '.');
        map.setGround(0, y + 1, '.');
        map.setGround(1, y + 1, '.');
        return map;
    }

    private void greatestHeats() {
        MapSanatorium map = Maps.inRock(0, 1, 0);
        due("the hottest cell between", map, 1, 0, 0, 2, 0);
        Maps.heatMuch(map, 1, 0, 9998);
        due("the greatest heat between", map, 9999, 0, 0, 2, 0);
        due("the greatest heat at an end", map, 9999, 1, 0, 2, 0);
        due("a heat above the greatest", Maps.withGreatRelapse(), 18817, 3, 3, 0, 0);
    }

    /** A way of 36 cells winds between rows of rock; the hottest cell is the last but one. */
    private void longestWay() {
        MapSanatorium map = new MapSanatorium();
        for (int y = 1; y < 8; y += 2) {
            for (int x = 0; x < 8; x++) {
                if (x != (y % 4 == 1 ? 7 : 0)) {
                    map.setGround(x, y, '#');
                }
            }
        }
        map.heatUp(0, 6, 3);
        map.heatUp(1, 2, 2);
        map.heatUp(0, 7, 1);
        due("from one end to the other", map, 3, 0, 0, 0, 7);
        due("but for the hottest", map, 2, 0, 0, 1, 6);
    }

    private void due(String what, MapSanatorium map, int peak, int fromX, int fromY, int toX, int toY) {
        tally.due("P27 " + what, peak, () -> map.coolestPeak(fromX, fromY, toX, toY));
        tally.due("P28 " + what, peak, () -> map.coolestPeakByTrying(fromX, fromY, toX, toY));
        tally.due("P27 back: " + what, peak, () -> map.coolestPeak(toX, toY, fromX, fromY));
        tally.due("P28 back: " + what, peak, () -> map.coolestPeakByTrying(toX, toY, fromX, fromY));
    }

    private void changesNothing() {
        Whole.dueQuestion(tally, "P27", 40, map -> map.coolestPeak(5, 5, 7, 7));
        Whole.dueQuestion(tally, "P28", 40, map -> map.coolestPeakByTrying(5, 5, 7, 7));
    }
}
