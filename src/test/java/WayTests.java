import java.util.NoSuchElementException;

/** Promises 27 and 28. */
final class WayTests {
    private final Tally tally;

    private WayTests(Tally tally) {
        this.tally = tally;
    }

    static void run(Tally tally) {
        WayTests tests = new WayTests(tally);
        tests.roundAWall();
        tests.throughAWall();
        tests.noWay();
        tests.endsCount();
        tests.manyHeats();
    }

    private void due(MapSanatorium map, int peak, int fromX, int fromY, int toX, int toY) {
        tally.due("P27 the peak", peak, () -> map.coolestPeak(fromX, fromY, toX, toY));
        tally.due("P28 the peak", peak, () -> map.coolestPeakByTrying(fromX, fromY, toX, toY));
        tally.due("P27 the peak back", peak, () -> map.coolestPeak(toX, toY, fromX, fromY));
        tally.due("P28 the peak back", peak, () -> map.coolestPeakByTrying(toX, toY, fromX, fromY));
    }

    private void dueNone(MapSanatorium map, int fromX, int fromY, int toX, int toY) {
        tally.dueThrows("P27 no way", NoSuchElementException.class, () -> map.coolestPeak(fromX, fromY, toX, toY));
        tally.dueThrows("P28 no way", NoSuchElementException.class, () -> map.coolestPeakByTrying(fromX, fromY, toX, toY));
    }

    private void roundAWall() {
        MapSanatorium map = Maps.pictured(50, "...#", "...#", "...#", "...#", "...#", "...#", "...#", "");
        due(map, 0, 0, 0, 7, 0);
        map.heatUp(3, 7, 60);
        due(map, 50, 0, 0, 7, 0);
        map.heatUp(3, 0, 1);
        map.heatUp(3, 1, 2);
        due(map, 50, 0, 0, 7, 0);
        for (int y = 2; y < 7; y++) {
            map.heatUp(3, y, 3 + y);
        }
        due(map, 51, 0, 7, 7, 7);
        due(map, 0, 0, 0, 2, 7);
    }

    private void throughAWall() {
        MapSanatorium map = new MapSanatorium();
        for (int y = 0; y < 8; y++) {
            if (y != 5) {
                map.setGround(4, y, '#');
            }
        }
        map.heatUp(4, 5, 70);
        due(map, 70, 0, 0, 7, 7);
        map.heatUp(3, 5, 80);
        due(map, 80, 0, 0, 7, 7);
        due(map, 70, 4, 5, 7, 7);
        map.setGround(5, 5, '~');
        map.heatUp(5, 5, 75);
        due(map, 75, 4, 5, 7, 7);
        due(map, 80, 2, 5, 6, 5);
    }

    private void noWay() {
        MapSanatorium map = Maps.walledIn();
        map.heatUp(3, 3, 30);
        dueNone(map, 3, 3, 0, 0);
        dueNone(map, 0, 0, 3, 3);
        dueNone(map, 3, 2, 3, 2);
        dueNone(map, 3, 2, 3, 3);
        dueNone(map, 3, 3, 3, 2);
        dueNone(map, 0, 0, 3, 2);
        due(map, 30, 3, 3, 3, 3);
        map.setGround(3, 2, ':');
        due(map, 30, 3, 3, 0, 0);
        MapSanatorium corner = new MapSanatorium();
        corner.setGround(1, 0, '#');
        corner.setGround(0, 1, '#');
        dueNone(corner, 0, 0, 1, 1);
        MapSanatorium rows = new MapSanatorium();
        rows.setGround(6, 0, '#');
        rows.setGround(7, 1, '#');
        dueNone(rows, 7, 0, 0, 1);
    }

    private void endsCount() {
        MapSanatorium map = new MapSanatorium();
        map.heatUp(2, 2, 40);
        map.heatUp(5, 5, 90);
        due(map, 40, 2, 2, 0, 0);
        due(map, 90, 2, 2, 5, 5);
        due(map, 40, 2, 2, 2, 2);
        due(map, 0, 0, 0, 0, 0);
        MapSanatorium first = Maps.pictured(5, "#");
        due(first, 5, 0, 0, 7, 7);
        MapSanatorium embers = Maps.withEmbersOnly();
        due(embers, 0, 0, 0, 0, 0);
        due(embers, 150, 0, 0, 1, 0);
        Maps.heatMuch(map, 7, 7, 9999);
        due(map, 9999, 0, 7, 7, 7);
    }

    /** Heats in no order at all, so that the heap has to sort in earnest. */
    private void manyHeats() {
        for (int seed = 1; seed <= 12; seed++) {
            MapSanatorium map = new MapSanatorium();
            PlainModel model = new PlainModel();
            int number = 7919 * seed;
            for (int cell = 0; cell < 64; cell++) {
                number = (number * 1103515 + 12345) % 99991;
                int heat = 1 + Math.abs(number) % 999;
                map.heatUp(cell % 8, cell / 8, heat);
                model.heatUp(cell % 8, cell / 8, heat);
            }
            for (int cell = 0; cell < 64; cell++) {
                int x = cell % 8;
                int y = cell / 8;
                due(map, model.coolestPeak(3, 4, x, y), 3, 4, x, y);
            }
        }
    }
}
