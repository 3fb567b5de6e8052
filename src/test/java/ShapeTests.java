/** Promises 19 to 26. */
final class ShapeTests {
    private final Tally tally;

    private ShapeTests(Tally tally) {
        this.tally = tally;
    }

    static void run(Tally tally) {
        ShapeTests tests = new ShapeTests(tally);
        tests.bits();
        tests.shapes();
        tests.levelsOfOneMap();
        tests.sizes();
    }

    private void bits() {
        MapSanatorium map = new MapSanatorium();
        tally.due("P19 none", 0, () -> map.cellBits(1));
        map.heatUp(0, 0, 5);
        tally.due("P19 cell 0", 1, () -> map.cellBits(5));
        tally.due("P19 above it", 0, () -> map.cellBits(6));
        map.heatUp(7, 7, 9);
        tally.due("P19 cell 63", Long.MIN_VALUE + 1, () -> map.cellBits(5));
        tally.due("P19 cell 63 alone", Long.MIN_VALUE, () -> map.cellBits(6));
        map.heatUp(1, 4, 900);
        tally.due("P19 cell 33", 1L << 33, () -> map.cellBits(900));
        Maps.heatMuch(map, 1, 4, 9099);
        tally.due("P19 greatest level", 1L << 33, () -> map.cellBits(9999));
        MapSanatorium embers = Maps.withEmbersOnly();
        tally.due("P19 embers are no heat", (1L << 1) + (1L << 8), () -> embers.cellBits(1));
    }

    private void shapes() {
        due("nothing", 0, 0, 0);
        due("a cell", 1, 0, 4, "", "#");
        due("corner cells", 4, 0, 16, "#......#", "", "", "", "", "", "", "#......#");
        due("a row and the next", 2, 0, 8, ".......#", "#");
        due("all", 1, 0, 32, "########", "########", "########", "########",
                "########", "########", "########", "########");
        due("touching corners", 2, 0, 8, "", ".#", "..#");
        due("the other corners", 2, 0, 8, "", "..#", ".#");
        due("a diamond", 4, 0, 16, "", "", "...#", "..#.#", "...#");
        due("a ring", 1, 1, 16, "", ".###", ".#.#", ".###");
        due("a ring at the edge", 1, 1, 16, "###", "#.#", "###");
        due("a ring open to the edge", 1, 0, 16, "#.#", "#.#", "###");
        due("a ring open at a corner", 1, 0, 16, "", ".##", ".#.#", ".###");
        due("a hole of two that touch", 1, 1, 24, "####", "#.##", "##.#", "####");
        due("two holes", 1, 2, 24, "#####", "#.#.#", "#####");
        due("a ring in a ring", 2, 2, 64, "#######", "#.....#", "#.###.#", "#.#.#.#", "#.###.#", "#.....#", "#######");
        due("a hole with a cell in it", 2, 1, 36, "#####", "#...#", "#.#.#", "#...#", "#####");
        due("a snake", 1, 0, 74, "########", ".......#", "########", "#.......", "########", ".......#", "########", "#");
        due("a board", 32, 0, 128, "#.#.#.#.", ".#.#.#.#", "#.#.#.#.", ".#.#.#.#",
                "#.#.#.#.", ".#.#.#.#", "#.#.#.#.", ".#.#.#.#");
        due("last row and column", 1, 0, 32, ".......#", ".......#", ".......#", ".......#",
                ".......#", ".......#", ".......#", "########");
    }

    private void due(String what, int regions, int holes, int contour, String... picture) {
        MapSanatorium map = Maps.pictured(20, picture);
        tally.due("P20 " + what, regions, () -> map.regions(20));
        tally.due("P21 " + what, regions, () -> map.regionsByUnions(20));
        tally.due("P22 " + what, holes, () -> map.holes(20));
        tally.due("P23 " + what, holes, () -> map.holesBySquares(20));
        tally.due("P24 " + what, contour, () -> map.contourLength(20));
        tally.due("P25 " + what, contour, () -> map.contourLengthByPairs(20));
        tally.due("P42 " + what, 1, () -> Tally.truth(map.isConsistent()));
    }

    private void levelsOfOneMap() {
        MapSanatorium map = Maps.pictured(20, "###", "#.#", "###");
        map.heatUp(1, 1, 19);
        map.heatUp(0, 0, 500);
        tally.due("P22 filled", 0, () -> map.holes(19));
        tally.due("P23 filled", 0, () -> map.holesBySquares(19));
        tally.due("P22 not filled", 1, () -> map.holes(20));
        tally.due("P23 not filled", 1, () -> map.holesBySquares(20));
        tally.due("P20 only one cell", 1, () -> map.regions(21));
        tally.due("P21 only one cell", 1, () -> map.regionsByUnions(21));
        tally.due("P24 only one cell", 4, () -> map.contourLength(21));
        tally.due("P25 only one cell", 4, () -> map.contourLengthByPairs(21));
        tally.due("P20 greatest level", 0, () -> map.regions(9999));
        tally.due("P21 greatest level", 0, () -> map.regionsByUnions(9999));
        tally.due("P24 greatest level", 0, () -> map.contourLength(9999));
        tally.due("P25 greatest level", 0, () -> map.contourLengthByPairs(9999));
        tally.due("P22 greatest level", 0, () -> map.holes(9999));
        tally.due("P23 greatest level", 0, () -> map.holesBySquares(9999));
    }

    private void sizes() {
        MapSanatorium map = Maps.pictured(20, "##.#", "#..#", "...#...#", "########");
        tally.due("P26 three", 3, () -> map.regionSize(0, 1, 20));
        tally.due("P26 more", 12, () -> map.regionSize(7, 2, 20));
        tally.due("P26 its other end", 12, () -> map.regionSize(3, 0, 1));
        tally.due("P26 not of the level", 0, () -> map.regionSize(2, 0, 20));
        tally.due("P26 too high a level", 0, () -> map.regionSize(0, 0, 21));
        tally.due("P26 the column comes first", 0, () -> map.regionSize(1, 1, 20));
        map.heatUp(2, 0, 20);
        tally.due("P26 joined", 16, () -> map.regionSize(0, 0, 20));
        map.heatUp(2, 0, 20);
        tally.due("P26 alone", 1, () -> map.regionSize(2, 0, 40));
    }
}
