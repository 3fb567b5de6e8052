import java.util.NoSuchElementException;

/** The boundary cases of promises 1 to 11. */
final class GroundEdgeTests {
    private static final Class<IndexOutOfBoundsException> NO_CELL = IndexOutOfBoundsException.class;
    private static final Class<IllegalArgumentException> OUT_OF_RANGE = IllegalArgumentException.class;
    private static final Class<NoSuchElementException> NONE = NoSuchElementException.class;
    private final Tally tally;

    private GroundEdgeTests(Tally tally) {
        this.tally = tally;
    }

    static void run(Tally tally) {
        GroundEdgeTests tests = new GroundEdgeTests(tally);
        tests.promise1NothingHasHappened();
        tests.promise1ObjectsShareNothing();
        tests.promise2Cells();
        tests.promise2Grounds();
        tests.promise2RockOnHeatOrEmbers();
        tests.promise2RockOnWhatIsColdAgain();
        tests.promise2OtherGroundsOnHeat();
        tests.promise2FirstException();
        tests.promises3And5And6Cells();
        tests.promise4Cells();
        tests.promise4Amounts();
        tests.promise4GreatestHeat();
        tests.promise4HeatAboveTheGreatest();
        tests.promise4Rock();
        tests.promise4FirstException();
        tests.promises7And8Sums();
        tests.promise9Ranks();
        tests.promise9EqualHeats();
        tests.promises10And11None();
        tests.promises10And11LastOne();
    }

    private Edge edge(String what, Edge.Caller caller) {
        return new Edge(tally, what, caller);
    }

    private void promise1NothingHasHappened() {
        MapSanatorium map = new MapSanatorium();
        tally.dueThrows("P1 no refusal", NONE, map::refusalReason);
        tally.dueThrows("P1 no detail", NONE, map::refusalDetail);
        tally.dueThrows("P1 no error position", NONE, map::errorPosition);
        tally.dueThrows("P1 no failed command", NONE, map::failedCommand);
        tally.dueThrows("P1 an empty line", IndexOutOfBoundsException.class, () -> map.lineAt(0));
        tally.dueThrows("P1 no change", IllegalStateException.class, map::undo);
        tally.dueThrows("P1 no snapshot", IllegalStateException.class, map::restore);
        tally.due("P1 an empty command text", 1, () -> map.append('x'));
    }

    private void promise1ObjectsShareNothing() {
        MapSanatorium map = new MapSanatorium();
        String before = Whole.readings(map);
        Maps.used().pass(20);
        tally.due("P1 another object changes nothing", before, Whole.readings(map));
    }

    private void promise2Cells() {
        edge("P2 column", (map, x) -> map.setGround(x, 5, ':')).takes(0, '.').takes(7, '.')
                .takesNoneBeyond(0, 7, NO_CELL);
        edge("P2 row", (map, y) -> map.setGround(3, y, ':')).takes(0, '.').takes(7, '.')
                .takesNoneBeyond(0, 7, NO_CELL);
    }

    private void promise2Grounds() {
        Edge ground = edge("P2 ground", (map, sign) -> map.setGround(6, 6, (char) sign));
        for (char sign : ".:~#".toCharArray()) {
            ground.takes(sign, ':').throwsFor(OUT_OF_RANGE, sign - 1, sign + 1, sign + 128, sign + 256);
        }
        ground.throwsFor(OUT_OF_RANGE, 0, ' ', '0', 'e', 255, 0xFFFF);
    }

    private void promise2RockOnHeatOrEmbers() {
        dueRefusedRock("P2 rock on a heat of 1", () -> heated(1), 1);
        dueRefusedRock("P2 rock on the greatest heat", () -> heated(9999), 9999);
        dueRefusedRock("P2 rock on embers alone", Maps::withEmbersOnly, 100);
        dueRefusedRock("P2 rock on embers and heat", () -> {
            MapSanatorium map = Maps.withEmbersOnly();
            map.heatUp(0, 0, 1);
            return map;
        }, 101);
    }

    private static MapSanatorium heated(int heat) {
        MapSanatorium map = new MapSanatorium();
        Maps.heatMuch(map, 0, 0, heat);
        return map;
    }

    private void dueRefusedRock(String what, Whole.Maker maker, int detail) {
        Whole.dueRefused(tally, what, maker, map -> map.setGround(0, 0, '#'), 2, detail);
    }

    private void promise2RockOnWhatIsColdAgain() {
        MapSanatorium map = heated(4);
        map.setGround(0, 0, '~');
        map.setGround(1, 0, '~');
        map.setGround(0, 1, '~');
        map.pass(1);
        tally.due("P2 a cell whose heat has gone takes rock", '~', () -> map.setGround(0, 0, '#'));
        tally.due("P2 rock takes rock", '#', () -> map.setGround(0, 0, '#'));
        tally.due("P2 and plain again", '#', () -> map.setGround(0, 0, '.'));
        map.setGround(0, 0, '#');
        map.setGround(0, 0, '.');
        tally.due("P4 what was rock takes heat", 1, () -> map.heatUp(0, 0, 1));
    }

    private void promise2OtherGroundsOnHeat() {
        for (char sign : ".:~".toCharArray()) {
            tally.due("P2 heat takes " + sign, '.', () -> heated(9999).setGround(0, 0, sign));
            tally.due("P2 embers take " + sign, '~', () -> Maps.withEmbersOnly().setGround(0, 0, sign));
        }
    }

    private void promise2FirstException() {
        Whole.dueThrows(tally, "P2 no cell before no ground", NO_CELL, map -> map.setGround(8, 0, 'x'));
        Whole.dueThrows(tally, "P2 no row before no ground", NO_CELL, map -> map.setGround(0, -1, 'x'));
        Whole.dueThrows(tally, "P2 no ground before a refusal", OUT_OF_RANGE, map -> map.setGround(1, 0, '$'));
    }

    private void promises3And5And6Cells() {
        edge("P3 column", (map, x) -> map.groundAt(x, 0)).takes(0, '~').takes(7, '.')
                .takesNoneBeyond(0, 7, NO_CELL);
        edge("P3 row", (map, y) -> map.groundAt(0, y)).takes(0, '~').takes(7, '.').takesNoneBeyond(0, 7, NO_CELL);
        edge("P5 column", (map, x) -> map.heatAt(x, 1)).takes(0, 150).takes(7, 0).takesNoneBeyond(0, 7, NO_CELL);
        edge("P5 row", (map, y) -> map.heatAt(1, y)).takes(0, 150).takes(7, 0).takesNoneBeyond(0, 7, NO_CELL);
        edge("P6 column", (map, x) -> map.embersAt(x, 0)).takes(0, 100).takes(7, 0).takesNoneBeyond(0, 7, NO_CELL);
        edge("P6 row", (map, y) -> map.embersAt(0, y)).takes(0, 100).takes(7, 0).takesNoneBeyond(0, 7, NO_CELL);
        MapSanatorium last = Maps.used();
        last.setGround(7, 7, '~');
        last.heatUp(7, 7, 800);
        last.pass(1);
        tally.due("P3 the last cell", '~', () -> last.groundAt(7, 7));
        tally.due("P5 the last cell", 800 - 200 - 2 * 133 - 192, () -> last.heatAt(7, 7));
        tally.due("P6 the last cell", 0, () -> last.embersAt(7, 7));
    }

    private void promise4Cells() {
        edge("P4 column", (map, x) -> map.heatUp(x, 5, 3)).takes(0, 3).takes(7, 3).takesNoneBeyond(0, 7, NO_CELL);
        edge("P4 row", (map, y) -> map.heatUp(5, y, 3)).takes(0, 3).takes(7, 3).takesNoneBeyond(0, 7, NO_CELL);
    }

    private void promise4Amounts() {
        edge("P4 amount", (map, amount) -> map.heatUp(5, 5, amount)).takes(1, 41).takes(999, 1039)
                .takesNoneBeyond(1, 999, OUT_OF_RANGE);
    }

    private void promise4GreatestHeat() {
        tally.due("P4 a heat of 9999", 9999, () -> heated(9000).heatUp(0, 0, 999));
        tally.due("P4 a heat of 9999 by one", 9999, () -> heated(9998).heatUp(0, 0, 1));
        dueRefusedHeat("P4 a heat of 10000", 9001, 999, 1);
        dueRefusedHeat("P4 a heat of 10000 by one", 9999, 1, 1);
        dueRefusedHeat("P4 a heat of 10998", 9999, 999, 999);
        MapSanatorium embers = Maps.withEmbersOnly();
        Maps.heatMuch(embers, 0, 0, 9000);
        tally.due("P4 embers do not count for the greatest heat", 9999, () -> embers.heatUp(0, 0, 999));
    }

    private void dueRefusedHeat(String what, int heat, int amount, int detail) {
        Whole.dueRefused(tally, what, () -> heated(heat), map -> map.heatUp(0, 0, amount), 3, detail);
    }

    private void promise4HeatAboveTheGreatest() {
        tally.due("P5 a relapse lifts heat above 9999", 18817, () -> Maps.withGreatRelapse().heatAt(3, 3));
        Whole.dueRefused(tally, "P4 no heat to what is too hot", Maps::withGreatRelapse,
                map -> map.heatUp(3, 3, 1), 3, 18817 + 1 - 9999);
        tally.due("P7 it counts", Maps.withGreatRelapse().allHeatByAccounts(),
                () -> Maps.withGreatRelapse().allHeat());
    }

    private void promise4Rock() {
        for (int cell : new int[] {0, 7, 56, 63}) {
            Whole.dueRefused(tally, "P4 rock in cell " + cell, Maps::inRock,
                    map -> map.heatUp(cell % 8, cell / 8, 1), 1, cell);
        }
        Whole.dueRefused(tally, "P4 the most heat on rock", Maps::used, map -> map.heatUp(2, 0, 999), 1, 2);
    }

    private void promise4FirstException() {
        Whole.dueThrows(tally, "P4 no cell before no amount", NO_CELL, map -> map.heatUp(-1, 0, 0));
        Whole.dueThrows(tally, "P4 no row before no amount", NO_CELL, map -> map.heatUp(0, 8, 1000));
        Whole.dueThrows(tally, "P4 no amount before rock", OUT_OF_RANGE, map -> map.heatUp(2, 0, 0));
        Whole.dueThrows(tally, "P4 no amount before too much heat", OUT_OF_RANGE,
                () -> heated(9999), map -> map.heatUp(0, 0, 1000));
    }

    private void promises7And8Sums() {
        tally.due("P7 nothing", 0, () -> new MapSanatorium().allHeat());
        tally.due("P8 nothing", 0, () -> new MapSanatorium().allHeatByAccounts());
        MapSanatorium ends = heated(5);
        ends.heatUp(7, 7, 6);
        tally.due("P7 from the first cell to the last", 11, ends::allHeat);
        tally.due("P8 from the first cell to the last", 11, ends::allHeatByAccounts);
        Whole.dueQuestion(tally, "P7 embers count", 440, MapSanatorium::allHeat);
        Whole.dueQuestion(tally, "P8 what left by the borders does not", 440, MapSanatorium::allHeatByAccounts);
        MapSanatorium run = Maps.used();
        run.run();
        tally.due("P7 the heat that a run adds", 445, run::allHeat);
        tally.due("P8 the heat that a run adds", 445, run::allHeatByAccounts);
        for (int side = 0; side < 4; side++) {
            MapSanatorium map = Maps.warmAt(side, 8);
            map.pass(1);
            tally.due("P7 without what left by side " + side, 7, map::allHeat);
            tally.due("P8 without what left by side " + side, 7, map::allHeatByAccounts);
        }
    }

    private void promise9Ranks() {
        edge("P9 rank", MapSanatorium::cellAtRank).takes(0, 1).takes(1, 8).takes(2, 45).takes(3, 0).takes(63, 63)
                .takesNoneBeyond(0, 63, NONE);
    }

    private void promise9EqualHeats() {
        MapSanatorium cold = new MapSanatorium();
        for (int rank = 0; rank < 64; rank++) {
            int place = rank;
            tally.due("P9 all equal", rank, () -> cold.cellAtRank(place));
        }
        cold.heatUp(7, 7, 1);
        tally.due("P9 the last cell is the hottest", 63, () -> cold.cellAtRank(0));
        tally.due("P9 then the first of the others", 0, () -> cold.cellAtRank(1));
        tally.due("P9 and the last of the others", 62, () -> cold.cellAtRank(63));
        tally.due("P9 rock has a rank", 63, () -> Maps.inRock().cellAtRank(63));
    }

    private void promises10And11None() {
        MapSanatorium map = new MapSanatorium();
        Whole.answerOf(() -> map.setGround(0, 0, 'x'));
        Whole.answerOf(() -> map.heatUp(8, 0, 1));
        Whole.answerOf(() -> map.setBorder(0, -1));
        Maps.write(map, "pass 0");
        Whole.answerOf(map::run);
        map.setGround(0, 0, '#');
        Whole.answerOf(() -> map.classOf(0, 0, 1));
        Whole.answerOf(() -> map.coolestPeak(0, 0, 0, 0));
        tally.dueThrows("P10 other exceptions are no refusals", NONE, map::refusalReason);
        tally.dueThrows("P11 other exceptions are no refusals", NONE, map::refusalDetail);
    }

    private void promises10And11LastOne() {
        Whole.dueQuestion(tally, "P10 reading keeps it", 2, MapSanatorium::refusalReason);
        Whole.dueQuestion(tally, "P11 reading keeps it", 150, MapSanatorium::refusalDetail);
        MapSanatorium map = Maps.used();
        map.heatUp(4, 4, 1);
        Whole.answerOf(() -> map.heatUp(8, 8, 1));
        map.undo();
        map.restore();
        tally.due("P10 stays until the next one", 2, map::refusalReason);
        tally.due("P11 stays until the next one", 150, map::refusalDetail);
        Whole.answerOf(() -> map.heatUp(2, 0, 1));
        tally.due("P10 the next one", 1, map::refusalReason);
        tally.due("P11 the next one", 2, map::refusalDetail);
    }
}
