/** The boundary cases of promises 19 to 26, and of promise 41. */
final class ShapeEdgeTests {
    private static final Class<IllegalArgumentException> OUT_OF_RANGE = IllegalArgumentException.class;
    private static final Class<IndexOutOfBoundsException> NO_CELL = IndexOutOfBoundsException.class;
    private final Tally tally;

    private ShapeEdgeTests(Tally tally) {
        this.tally = tally;
    }

    static void run(Tally tally) {
        ShapeEdgeTests tests = new ShapeEdgeTests(tally);
        tests.promises19To25Levels();
        tests.promise41Levels();
        tests.promise19Cells();
        tests.heatOfJustTheLevel();
        tests.noCell();
        tests.allCells();
        tests.eachCellAlone();
        tests.eachCellMissing();
        tests.promise20RowsDoNotWrap();
        tests.promise22GreatestHole();
        tests.promise22HolesAtTheEdge();
        tests.promise26Cells();
        tests.promise26Levels();
        tests.promise26Sizes();
        tests.promise26FirstException();
    }

    private Edge edge(String what, Edge.Caller caller) {
        return new Edge(tally, what, caller);
    }

    private void promises19To25Levels() {
        long bits = 1L << 1 | 1L << 8 | 1L << 45;
        edge("P19 level", MapSanatorium::cellBits).takes(1, bits).takes(9999, 0)
                .takesNoneBeyond(1, 9999, OUT_OF_RANGE);
        edge("P20 level", MapSanatorium::regions).takes(1, 3).takes(9999, 0).takesNoneBeyond(1, 9999, OUT_OF_RANGE);
        edge("P21 level", MapSanatorium::regionsByUnions).takes(1, 3).takes(9999, 0)
                .takesNoneBeyond(1, 9999, OUT_OF_RANGE);
        edge("P22 level", MapSanatorium::holes).takes(1, 0).takes(9999, 0).takesNoneBeyond(1, 9999, OUT_OF_RANGE);
        edge("P23 level", MapSanatorium::holesBySquares).takes(1, 0).takes(9999, 0)
                .takesNoneBeyond(1, 9999, OUT_OF_RANGE);
        edge("P24 level", MapSanatorium::contourLength).takes(1, 12).takes(9999, 0)
                .takesNoneBeyond(1, 9999, OUT_OF_RANGE);
        edge("P25 level", MapSanatorium::contourLengthByPairs).takes(1, 12).takes(9999, 0)
                .takesNoneBeyond(1, 9999, OUT_OF_RANGE);
        Whole.dueQuestion(tally, "P19", bits, map -> map.cellBits(1));
        Whole.dueQuestion(tally, "P20", 3, map -> map.regions(1));
        Whole.dueQuestion(tally, "P21", 3, map -> map.regionsByUnions(1));
        Whole.dueQuestion(tally, "P22", 0, map -> map.holes(1));
        Whole.dueQuestion(tally, "P23", 0, map -> map.holesBySquares(1));
        Whole.dueQuestion(tally, "P24", 12, map -> map.contourLength(1));
        Whole.dueQuestion(tally, "P25", 12, map -> map.contourLengthByPairs(1));
    }

    /** The share times 64 is a whole number. */
    private void promise41Levels() {
        edge("P41 level", (map, level) -> (long) (64 * map.levelShare(level))).takes(1, 3).takes(40, 3).takes(41, 2)
                .takes(9999, 0).takesNoneBeyond(1, 9999, OUT_OF_RANGE);
        Whole.dueQuestion(tally, "P41", 3, map -> (long) (64 * map.levelShare(1)));
        for (int cells = 0; cells <= 64; cells++) {
            MapSanatorium map = new MapSanatorium();
            for (int cell = 0; cell < cells; cell++) {
                map.heatUp(cell % 8, cell / 8, 1);
            }
            String want = Float.toString((float) cells / 64f);
            tally.due("P41 share of " + cells, want, Float.toString(map.levelShare(1)));
        }
    }

    private void promise19Cells() {
        for (int cell = 0; cell < 64; cell++) {
            MapSanatorium map = new MapSanatorium();
            map.heatUp(cell % 8, cell / 8, 1);
            tally.due("P19 cell " + cell, 1L << cell, () -> map.cellBits(1));
        }
        tally.due("P19 all cells", -1, () -> full(1).cellBits(1));
        tally.due("P19 no cell", 0, () -> full(1).cellBits(2));
        tally.due("P19 a heat above the greatest level", 1L << 27, () -> Maps.withGreatRelapse().cellBits(9999));
    }

    /** Makes a map that has this heat everywhere. */
    private static MapSanatorium full(int heat) {
        MapSanatorium map = new MapSanatorium();
        for (int cell = 0; cell < 64; cell++) {
            map.heatUp(cell % 8, cell / 8, heat);
        }
        return map;
    }

    private void heatOfJustTheLevel() {
        MapSanatorium map = new MapSanatorium();
        Maps.heatMuch(map, 4, 4, 9998);
        tally.due("P19 less than the level", 0, () -> map.cellBits(9999));
        due("less than the level", map, 9999, 0, 0, 0);
        due("just the level", map, 9998, 1, 0, 4);
        tally.due("P26 less than the level", 0, () -> map.regionSize(4, 4, 9999));
        tally.due("P26 just the level", 1, () -> map.regionSize(4, 4, 9998));
        map.heatUp(4, 4, 1);
        tally.due("P19 just the greatest level", 1L << 36, () -> map.cellBits(9999));
        due("just the greatest level", map, 9999, 1, 0, 4);
        tally.due("P26 just the greatest level", 1, () -> map.regionSize(4, 4, 9999));
    }

    private void noCell() {
        due("no cell", new MapSanatorium(), 1, 0, 0, 0);
        due("no cell but rock", Maps.inRock(), 1, 0, 0, 0);
        due("no cell but one with embers", Maps.withEmbersOnly(), 151, 0, 0, 0);
    }

    private void allCells() {
        due("all cells", full(1), 1, 1, 0, 32);
        due("no cell of all", full(1), 2, 0, 0, 0);
    }

    private void eachCellAlone() {
        for (int cell = 0; cell < 64; cell++) {
            MapSanatorium map = new MapSanatorium();
            map.heatUp(cell % 8, cell / 8, 5);
            due("cell " + cell + " alone", map, 5, 1, 0, 4);
        }
    }

    /** Only a cell that is not at the edge leaves a hole; each side of it that is no side of the map is contour. */
    private void eachCellMissing() {
        for (int cell = 0; cell < 64; cell++) {
            int x = cell % 8;
            int y = cell / 8;
            int sidesOfMap = (x == 0 || x == 7 ? 1 : 0) + (y == 0 || y == 7 ? 1 : 0);
            due("all but cell " + cell, allBut(cell), 5, 1, sidesOfMap == 0 ? 1 : 0, 32 + 4 - 2 * sidesOfMap);
            MapSanatorium map = allBut(cell);
            tally.due("P26 all but cell " + cell, 0, () -> map.regionSize(x, y, 5));
            tally.due("P26 the others", 63, () -> map.regionSize(7 - x, 7 - y, 5));
        }
    }

    private static MapSanatorium allBut(int missing) {
        MapSanatorium map = new MapSanatorium();
        for (int cell = 0; cell < 64; cell++) {
            map.heatUp(cell % 8, cell / 8, cell == missing ? 4 : 5);
        }
        return map;
    }

    /** The end of each row and the beginning of the next touch nowhere on the map. */
    private void promise20RowsDoNotWrap() {
        for (int y = 0; y < 7; y++) {
            MapSanatorium map = new MapSanatorium();
            map.heatUp(7, y, 5);
            map.heatUp(0, y + 1, 5);
            due("row " + y + " and the next", map, 5, 2, 0, 8);
            int row = y;
            tally.due("P26 row " + y + " and the next", 1, () -> map.regionSize(7, row, 5));
        }
        due("the columns at the edge", Maps.pictured(5, "#......#", "#......#", "#......#", "#......#",
                "#......#", "#......#", "#......#", "#......#"), 5, 2, 0, 36);
        due("the rows at the edge", Maps.pictured(5, "########", "", "", "", "", "", "", "########"), 5, 2, 0, 36);
    }

    private void promise22GreatestHole() {
        due("a ring along the edge", Maps.pictured(5, "########", "#......#", "#......#", "#......#",
                "#......#", "#......#", "#......#", "########"), 5, 1, 1, 56);
        due("a ring with a gap at the edge", Maps.pictured(5, "########", "#......#", "#......#", "#.......",
                "#......#", "#......#", "#......#", "########"), 5, 1, 0, 56);
        due("a ring with a gap in a corner", Maps.pictured(5, ".#######", "#......#", "#......#", "#......#",
                "#......#", "#......#", "#......#", "########"), 5, 1, 0, 56);
        due("as many holes as there can be", Maps.pictured(5, "########", "#.#.#.##", "########", "#.#.#.##",
                "########", "#.#.#.##", "########", "########"), 5, 1, 9, 32 + 9 * 4);
    }

    /** Cells that are not of the level belong to no hole if one of those that they touch is at the edge. */
    private void promise22HolesAtTheEdge() {
        due("a hole in each corner", Maps.pictured(5, "###..###", "#.#..#.#", "###..###", "", "",
                "###..###", "#.#..#.#", "###..###"), 5, 4, 4, 4 * 16);
        due("open to the corner of the map", Maps.pictured(5, ".##", "#.#", "###"), 5, 1, 0, 16);
        due("open to the last corner of the map", Maps.pictured(5, "", "", "", "", "",
                ".....###", ".....#.#", ".....##."), 5, 1, 0, 16);
        due("open to the end of the first row", Maps.pictured(5, ".....##.", ".....#.#", ".....###"), 5, 1, 0, 16);
        due("open to the beginning of the last row", Maps.pictured(5, "", "", "", "", "", "###", "#.#", ".##"),
                5, 1, 0, 16);
        due("holes that touch at a corner are one", Maps.pictured(5, "", ".####", ".#.##", ".##.#", ".####"), 5,
                1, 1, 24);
        due("and at the other corner", Maps.pictured(5, "", ".####", ".##.#", ".#.##", ".####"), 5, 1, 1, 24);
    }

    private void due(String what, MapSanatorium map, int level, int regions, int holes, int contour) {
        tally.due("P20 " + what, regions, () -> map.regions(level));
        tally.due("P21 " + what, regions, () -> map.regionsByUnions(level));
        tally.due("P22 " + what, holes, () -> map.holes(level));
        tally.due("P23 " + what, holes, () -> map.holesBySquares(level));
        tally.due("P24 " + what, contour, () -> map.contourLength(level));
        tally.due("P25 " + what, contour, () -> map.contourLengthByPairs(level));
    }

    private void promise26Cells() {
        edge("P26 column", (map, x) -> map.regionSize(x, 1, 1)).takes(0, 1).takes(7, 0)
                .takesNoneBeyond(0, 7, NO_CELL);
        edge("P26 row", (map, y) -> map.regionSize(1, y, 1)).takes(0, 1).takes(7, 0).takesNoneBeyond(0, 7, NO_CELL);
        Whole.dueQuestion(tally, "P26", 1, map -> map.regionSize(5, 5, 40));
    }

    private void promise26Levels() {
        edge("P26 level", (map, level) -> map.regionSize(5, 5, level))
                .takes(1, 1).takes(40, 1).takes(41, 0).takes(9999, 0)
                .takesNoneBeyond(1, 9999, OUT_OF_RANGE);
    }

    private void promise26Sizes() {
        for (int cell = 0; cell < 64; cell++) {
            int x = cell % 8;
            int y = cell / 8;
            tally.due("P26 all cells", 64, () -> full(1).regionSize(x, y, 1));
            tally.due("P26 no cell", 0, () -> full(1).regionSize(x, y, 2));
        }
        MapSanatorium two = Maps.pictured(5, "###", "", "#");
        tally.due("P26 only its own region", 3, () -> two.regionSize(1, 0, 5));
        tally.due("P26 only the other region", 1, () -> two.regionSize(0, 2, 5));
        tally.due("P26 no region", 0, () -> two.regionSize(0, 1, 5));
    }

    private void promise26FirstException() {
        Whole.dueThrows(tally, "P26 no cell before no level", NO_CELL, map -> map.regionSize(8, 0, 0));
        Whole.dueThrows(tally, "P26 no row before no level", NO_CELL, map -> map.regionSize(0, -1, 10000));
    }
}
