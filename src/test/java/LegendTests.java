import java.util.NoSuchElementException;

/** Promises 29 to 32, and 38 with the same legends. */
final class LegendTests {
    private final Tally tally;

    private LegendTests(Tally tally) {
        this.tally = tally;
    }

    static void run(Tally tally) {
        LegendTests tests = new LegendTests(tally);
        tests.eachCallByItself();
        tests.gaps();
        tests.equalGaps();
        tests.equalHeats();
        tests.classesOfCells();
    }

    private void due(MapSanatorium map, int classes, String legend, int spread) {
        tally.due("P38 legend", legend, Maps.legend(map, classes));
        tally.due("P38 length", legend.length(), () -> map.describeLegend(classes));
        tally.due("P29 spread", spread, () -> map.legendSpread(classes));
        tally.due("P30 spread", spread, () -> map.legendSpreadByTable(classes));
        String[] parts = legend.split(",");
        for (int place = 0; place < classes; place++) {
            int part = place;
            long begin = Long.parseLong(parts[place].split("-")[0]);
            tally.due("P31 begin", begin, () -> map.classBegin(classes, part));
        }
    }

    /** No call may lean on a legend that another one has drawn, for other cells or classes. */
    private void eachCallByItself() {
        tally.due("P29 by itself", 12, () -> Maps.inRock(300, 0, 12, 7).legendSpread(2));
        tally.due("P30 by itself", 12, () -> Maps.inRock(300, 0, 12, 7).legendSpreadByTable(2));
        tally.due("P31 by itself", 300, () -> Maps.inRock(300, 0, 12, 7).classBegin(2, 1));
        tally.due("P32 by itself", 1, () -> Maps.inRock(300, 0, 12, 7).classOf(0, 0, 2));
        tally.due("P38 by itself", "0-12,300-300", Maps.legend(Maps.inRock(300, 0, 12, 7), 2));
        MapSanatorium map = Maps.inRock(300, 0, 12, 7);
        for (int round = 0; round < 2; round++) {
            tally.due("P29 in three", 5, () -> map.legendSpread(3));
            tally.due("P31 in two", 300, () -> map.classBegin(2, 1));
            tally.due("P30 in one", 300, () -> map.legendSpreadByTable(1));
            tally.due("P32 in four", 1, () -> map.classOf(3, 0, 4));
            tally.due("P29 in two", 12, () -> map.legendSpread(2));
        }
        map.heatUp(1, 0, 600);
        tally.due("P30 of other heats", 293, () -> map.legendSpreadByTable(2));
        tally.due("P29 of other heats", 293, () -> map.legendSpread(2));
    }

    private void gaps() {
        MapSanatorium map = Maps.inRock(300, 0, 12, 7);
        due(map, 1, "0-300", 300);
        due(map, 2, "0-12,300-300", 12);
        due(map, 3, "0-0,7-12,300-300", 5);
        due(map, 4, "0-0,7-7,12-12,300-300", 0);
        MapSanatorium six = Maps.inRock(999, 1, 500, 40, 44, 510);
        due(six, 2, "1-510,999-999", 509);
        due(six, 3, "1-44,500-510,999-999", 53);
        due(six, 6, "1-1,40-40,44-44,500-500,510-510,999-999", 0);
        Maps.heatMuch(six, 0, 0, 9000);
        due(six, 2, "1-510,9999-9999", 509);
        due(new MapSanatorium(), 1, "0-0", 0);
        due(new MapSanatorium(), 6, "0-0,0-0,0-0,0-0,0-0,0-0", 0);
    }

    private void equalGaps() {
        MapSanatorium map = Maps.inRock(30, 20, 10, 0);
        due(map, 2, "0-0,10-30", 20);
        due(map, 3, "0-0,10-10,20-30", 10);
        MapSanatorium other = Maps.inRock(0, 5, 20, 35, 40, 55);
        due(other, 2, "0-5,20-55", 40);
        due(other, 3, "0-5,20-20,35-55", 25);
        due(other, 4, "0-5,20-20,35-40,55-55", 10);
        due(other, 5, "0-0,5-5,20-20,35-40,55-55", 5);
    }

    private void equalHeats() {
        MapSanatorium map = Maps.inRock(5, 9, 5, 5, 9);
        due(map, 2, "5-5,9-9", 0);
        due(map, 3, "5-5,5-5,9-9", 0);
        dueClasses(map, 2, 0, 1, 0, 0, 1);
        dueClasses(map, 3, 0, 2, 1, 1, 2);
        dueClasses(map, 4, 0, 3, 1, 2, 3);
        dueClasses(map, 5, 0, 3, 1, 2, 4);
        MapSanatorium even = new MapSanatorium();
        even.setGround(0, 0, '#');
        tally.due("P32 the first one", 0, () -> even.classOf(1, 0, 3));
        tally.due("P32 the second one", 1, () -> even.classOf(2, 0, 3));
        tally.due("P32 the third one", 2, () -> even.classOf(3, 0, 3));
        tally.due("P32 the last one", 2, () -> even.classOf(7, 7, 3));
    }

    private void dueClasses(MapSanatorium map, int classes, int... places) {
        for (int cell = 0; cell < places.length; cell++) {
            int x = cell;
            tally.due("P32 cell " + cell + " in " + classes, places[cell], () -> map.classOf(x, 0, classes));
        }
    }

    private void classesOfCells() {
        MapSanatorium map = Maps.inRock(300, 0, 12, 7);
        dueClasses(map, 1, 0, 0, 0, 0);
        dueClasses(map, 2, 1, 0, 0, 0);
        dueClasses(map, 3, 2, 0, 1, 1);
        dueClasses(map, 4, 3, 0, 2, 1);
        tally.dueThrows("P32 rock", UnsupportedOperationException.class, () -> map.classOf(4, 0, 2));
        tally.dueThrows("P32 keeps no refusal", NoSuchElementException.class, map::refusalReason);
        MapSanatorium embers = Maps.withEmbersOnly();
        tally.due("P32 embers are no heat", 0, () -> embers.classOf(0, 0, 2));
        tally.due("P32 heat is", 1, () -> embers.classOf(1, 0, 2));
    }
}
