/** Promises 1 to 11. */
final class GroundAndHeatTests {
    private final Tally tally;

    private GroundAndHeatTests(Tally tally) {
        this.tally = tally;
    }

    static void run(Tally tally) {
        GroundAndHeatTests tests = new GroundAndHeatTests(tally);
        tests.newObject();
        tests.settingGround();
        tests.heating();
        tests.readingCells();
        tests.sums();
        tests.ranks();
    }

    private void newObject() {
        MapSanatorium map = new MapSanatorium();
        for (int cell = 0; cell < 64; cell++) {
            int x = cell % 8;
            int y = cell / 8;
            tally.due("P1 ground", '.', () -> map.groundAt(x, y));
            tally.due("P1 heat", 0, () -> map.heatAt(x, y));
            tally.due("P1 embers", 0, () -> map.embersAt(x, y));
        }
        for (int side = 0; side < 4; side++) {
            int place = side;
            tally.due("P1 border", 0, () -> map.border(place));
            tally.due("P1 lost", 0, () -> map.lostBy(place));
        }
        tally.due("P1 all heat", 0, map::allHeat);
        tally.due("P1 accounts", 0, map::allHeatByAccounts);
        tally.due("P1 ticks", 0, map::ticks);
        tally.due("P1 relapses", 0, map::relapses);
    }

    private void settingGround() {
        MapSanatorium map = new MapSanatorium();
        tally.due("P2 from plain", '.', () -> map.setGround(2, 5, ':'));
        tally.due("P3 sand", ':', () -> map.groundAt(2, 5));
        tally.due("P3 the column comes first", '.', () -> map.groundAt(5, 2));
        tally.due("P2 from sand", ':', () -> map.setGround(2, 5, '~'));
        tally.due("P3 water", '~', () -> map.groundAt(2, 5));
        tally.due("P2 from water", '~', () -> map.setGround(2, 5, '#'));
        tally.due("P3 rock", '#', () -> map.groundAt(2, 5));
        tally.due("P2 rock on rock", '#', () -> map.setGround(2, 5, '#'));
        tally.due("P2 from rock", '#', () -> map.setGround(2, 5, '.'));
        tally.due("P3 plain", '.', () -> map.groundAt(2, 5));
        tally.due("P2 last cell", '.', () -> map.setGround(7, 7, '#'));
        tally.due("P3 last cell", '#', () -> map.groundAt(7, 7));
        tally.due("P3 first cell", '.', () -> map.groundAt(0, 0));
        map.heatUp(4, 4, 10);
        tally.due("P2 a warm cell takes other grounds", '.', () -> map.setGround(4, 4, ':'));
        tally.due("P2 and keeps its heat", 10, () -> map.heatAt(4, 4));
    }

    private void heating() {
        MapSanatorium map = new MapSanatorium();
        tally.due("P4 least", 1, () -> map.heatUp(6, 1, 1));
        tally.due("P4 most", 1000, () -> map.heatUp(6, 1, 999));
        tally.due("P5 heated", 1000, () -> map.heatAt(6, 1));
        tally.due("P5 the column comes first", 0, () -> map.heatAt(1, 6));
        tally.due("P4 makes no embers", 0, () -> map.embersAt(6, 1));
        tally.due("P4 last cell", 3, () -> map.heatUp(7, 7, 3));
        tally.due("P4 first cell", 4, () -> map.heatUp(0, 0, 4));
    }

    private void readingCells() {
        MapSanatorium map = Maps.withEmbersOnly();
        tally.due("P5 no heat", 0, () -> map.heatAt(0, 0));
        tally.due("P6 embers", 100, () -> map.embersAt(0, 0));
        tally.due("P5 beside", 150, () -> map.heatAt(1, 0));
        tally.due("P6 beside", 0, () -> map.embersAt(1, 0));
        tally.due("P5 rock", 0, () -> map.heatAt(1, 1));
        tally.due("P6 rock", 0, () -> map.embersAt(1, 1));
    }

    private void sums() {
        MapSanatorium map = Maps.withEmbersOnly();
        tally.due("P7 heat and embers", 400, map::allHeat);
        tally.due("P8 added less lost", 400, map::allHeatByAccounts);
        map.heatUp(7, 7, 8);
        tally.due("P7 a cell more", 408, map::allHeat);
        tally.due("P8 an addition more", 408, map::allHeatByAccounts);
        map.undo();
        tally.due("P7 undone", 400, map::allHeat);
        tally.due("P8 undone", 400, map::allHeatByAccounts);
    }

    private void ranks() {
        MapSanatorium map = new MapSanatorium();
        map.heatUp(5, 0, 30);
        map.heatUp(1, 1, 40);
        map.heatUp(4, 0, 30);
        map.heatUp(7, 7, 30);
        map.setGround(0, 0, '#');
        int[] firsts = {9, 4, 5, 63, 0, 1, 2, 3, 6, 7, 8, 10};
        for (int rank = 0; rank < firsts.length; rank++) {
            int place = rank;
            tally.due("P9 rank " + rank, firsts[rank], () -> map.cellAtRank(place));
        }
        tally.due("P9 last rank", 62, () -> map.cellAtRank(63));
        MapSanatorium embers = Maps.withEmbersOnly();
        tally.due("P9 embers are no heat", 1, () -> embers.cellAtRank(0));
        tally.due("P9 nor for the others", 0, () -> embers.cellAtRank(2));
    }
}
