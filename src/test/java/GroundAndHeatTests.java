import java.util.NoSuchElementException;

/** Promises 1 to 11. */
final class GroundAndHeatTests {
    private static final int[][] NO_CELLS = {
        {-1, 0}, {8, 0}, {0, -1}, {0, 8}, {8, 8}, {-1, 3}, {9, -9},
        {Integer.MAX_VALUE, 0}, {0, Integer.MIN_VALUE}, {Integer.MIN_VALUE, Integer.MAX_VALUE},
        {64, -8}, {-8, 1},
    };
    private final Tally tally;

    private GroundAndHeatTests(Tally tally) {
        this.tally = tally;
    }

    static void run(Tally tally) {
        GroundAndHeatTests tests = new GroundAndHeatTests(tally);
        tests.newObject();
        tests.settingGround();
        tests.settingGroundWrongly();
        tests.refusingRock();
        tests.heating();
        tests.heatingWrongly();
        tests.refusingHeat();
        tests.readingCells();
        tests.sums();
        tests.ranks();
        tests.refusals();
    }

    private void newObject() {
        MapSanatorium map = new MapSanatorium();
        for (int cell = 0; cell < 64; cell++) {
            int x = cell % 8;
            int y = cell / 8;
            tally.due("P1 ground", '.', () -> map.groundAt(x, y));
            tally.due("P1 heat", 0, () -> map.heatAt(x, y));
            tally.due("P1 embers", 0, () -> map.embersAt(x, y));
        }
        for (int side = 0; side < 4; side++) {
            int place = side;
            tally.due("P1 border", 0, () -> map.border(place));
            tally.due("P1 lost", 0, () -> map.lostBy(place));
        }
        tally.due("P1 all heat", 0, map::allHeat);
        tally.due("P1 accounts", 0, map::allHeatByAccounts);
        tally.due("P1 ticks", 0, map::ticks);
        tally.due("P1 relapses", 0, map::relapses);
        tally.dueThrows("P1 no change", IllegalStateException.class, map::undo);
        tally.dueThrows("P1 no snapshot", IllegalStateException.class, map::restore);
    }

    private void settingGround() {
        MapSanatorium map = new MapSanatorium();
        tally.due("P2 from plain", '.', () -> map.setGround(2, 5, ':'));
        tally.due("P3 sand", ':', () -> map.groundAt(2, 5));
        tally.due("P3 the column comes first", '.', () -> map.groundAt(5, 2));
        tally.due("P2 from sand", ':', () -> map.setGround(2, 5, '~'));
        tally.due("P3 water", '~', () -> map.groundAt(2, 5));
        tally.due("P2 from water", '~', () -> map.setGround(2, 5, '#'));
        tally.due("P3 rock", '#', () -> map.groundAt(2, 5));
        tally.due("P2 rock on rock", '#', () -> map.setGround(2, 5, '#'));
        tally.due("P2 from rock", '#', () -> map.setGround(2, 5, '.'));
        tally.due("P3 plain", '.', () -> map.groundAt(2, 5));
        tally.due("P2 last cell", '.', () -> map.setGround(7, 7, '#'));
        tally.due("P3 last cell", '#', () -> map.groundAt(7, 7));
        tally.due("P3 first cell", '.', () -> map.groundAt(0, 0));
        map.heatUp(4, 4, 10);
        tally.due("P2 a warm cell takes other grounds", '.', () -> map.setGround(4, 4, ':'));
        tally.due("P2 and keeps its heat", 10, () -> map.heatAt(4, 4));
    }

    private void settingGroundWrongly() {
        MapSanatorium map = new MapSanatorium();
        for (int[] cell : NO_CELLS) {
            tally.dueThrows("P2 no cell", IndexOutOfBoundsException.class, () -> map.setGround(cell[0], cell[1], '#'));
            tally.dueThrows("P2 no cell, no ground", IndexOutOfBoundsException.class, () -> map.setGround(cell[0], cell[1], 'x'));
            tally.dueThrows("P3 no cell", IndexOutOfBoundsException.class, () -> map.groundAt(cell[0], cell[1]));
        }
        map.heatUp(1, 1, 5);
        for (char ground : new char[] {'x', ' ', 'e', '0', 0, (char) 0xFFFF, (char) ('#' + 256), ',', '/', '\'', '}'}) {
            tally.dueThrows("P2 no ground", IllegalArgumentException.class, () -> map.setGround(1, 1, ground));
        }
        tally.dueThrows("P2 nothing refused", NoSuchElementException.class, map::refusalReason);
        tally.due("P2 only the heat is a change", 0, map::undo);
    }

    private void refusingRock() {
        MapSanatorium map = new MapSanatorium();
        map.heatUp(1, 2, 1);
        tally.dueThrows("P2 rock on heat", UnsupportedOperationException.class, () -> map.setGround(1, 2, '#'));
        tally.due("P2 ground stays", '.', () -> map.groundAt(1, 2));
        tally.due("P10 heat", 2, map::refusalReason);
        tally.due("P11 heat", 1, map::refusalDetail);
        MapSanatorium embers = Maps.withEmbersOnly();
        tally.dueThrows("P2 rock on embers", UnsupportedOperationException.class, () -> embers.setGround(0, 0, '#'));
        tally.due("P10 embers", 2, embers::refusalReason);
        tally.due("P11 embers", 100, embers::refusalDetail);
        embers.heatUp(0, 0, 7);
        tally.dueThrows("P2 rock on both", UnsupportedOperationException.class, () -> embers.setGround(0, 0, '#'));
        tally.due("P11 both", 107, embers::refusalDetail);
    }

    private void heating() {
        MapSanatorium map = new MapSanatorium();
        tally.due("P4 least", 1, () -> map.heatUp(6, 1, 1));
        tally.due("P4 most", 1000, () -> map.heatUp(6, 1, 999));
        tally.due("P5 heated", 1000, () -> map.heatAt(6, 1));
        tally.due("P5 the column comes first", 0, () -> map.heatAt(1, 6));
        tally.due("P4 makes no embers", 0, () -> map.embersAt(6, 1));
        tally.due("P4 last cell", 3, () -> map.heatUp(7, 7, 3));
        tally.due("P4 first cell", 4, () -> map.heatUp(0, 0, 4));
    }

    private void heatingWrongly() {
        MapSanatorium map = new MapSanatorium();
        for (int[] cell : NO_CELLS) {
            tally.dueThrows("P4 no cell", IndexOutOfBoundsException.class, () -> map.heatUp(cell[0], cell[1], 1));
            tally.dueThrows("P4 no cell, no amount", IndexOutOfBoundsException.class, () -> map.heatUp(cell[0], cell[1], 0));
        }
        map.setGround(3, 3, '#');
        for (int amount : new int[] {0, -1, 1000, Integer.MAX_VALUE, Integer.MIN_VALUE}) {
            tally.dueThrows("P4 no amount", IllegalArgumentException.class, () -> map.heatUp(0, 0, amount));
            tally.dueThrows("P4 no amount on rock", IllegalArgumentException.class, () -> map.heatUp(3, 3, amount));
        }
        tally.dueThrows("P4 nothing refused", NoSuchElementException.class, map::refusalDetail);
        tally.due("P4 nothing added", 0, map::allHeat);
        tally.due("P4 only the rock is a change", 0, map::undo);
    }

    private void refusingHeat() {
        MapSanatorium map = new MapSanatorium();
        map.setGround(2, 3, '#');
        tally.dueThrows("P4 rock", UnsupportedOperationException.class, () -> map.heatUp(2, 3, 1));
        tally.due("P10 rock", 1, map::refusalReason);
        tally.due("P11 rock", 26, map::refusalDetail);
        tally.due("P4 rock stays cold", 0, () -> map.heatAt(2, 3));
        Maps.heatMuch(map, 5, 5, 9990);
        tally.dueThrows("P4 by one", UnsupportedOperationException.class, () -> map.heatUp(5, 5, 10));
        tally.due("P10 by one", 3, map::refusalReason);
        tally.due("P11 by one", 1, map::refusalDetail);
        tally.due("P4 up to the most", 9999, () -> map.heatUp(5, 5, 9));
        tally.dueThrows("P4 beyond", UnsupportedOperationException.class, () -> map.heatUp(5, 5, 999));
        tally.due("P11 beyond", 999, map::refusalDetail);
        tally.due("P4 the heat stays", 9999, () -> map.heatAt(5, 5));
        tally.due("P8 the account stays", 9999, map::allHeatByAccounts);
    }

    private void readingCells() {
        MapSanatorium map = Maps.withEmbersOnly();
        tally.due("P5 no heat", 0, () -> map.heatAt(0, 0));
        tally.due("P6 embers", 100, () -> map.embersAt(0, 0));
        tally.due("P5 beside", 150, () -> map.heatAt(1, 0));
        tally.due("P6 beside", 0, () -> map.embersAt(1, 0));
        tally.due("P5 rock", 0, () -> map.heatAt(1, 1));
        tally.due("P6 rock", 0, () -> map.embersAt(1, 1));
        for (int[] cell : NO_CELLS) {
            tally.dueThrows("P5 no cell", IndexOutOfBoundsException.class, () -> map.heatAt(cell[0], cell[1]));
            tally.dueThrows("P6 no cell", IndexOutOfBoundsException.class, () -> map.embersAt(cell[0], cell[1]));
        }
    }

    private void sums() {
        MapSanatorium map = Maps.withEmbersOnly();
        tally.due("P7 heat and embers", 400, map::allHeat);
        tally.due("P8 added less lost", 400, map::allHeatByAccounts);
        map.heatUp(7, 7, 8);
        tally.due("P7 a cell more", 408, map::allHeat);
        tally.due("P8 an addition more", 408, map::allHeatByAccounts);
        map.undo();
        tally.due("P7 undone", 400, map::allHeat);
        tally.due("P8 undone", 400, map::allHeatByAccounts);
    }

    private void ranks() {
        MapSanatorium map = new MapSanatorium();
        map.heatUp(5, 0, 30);
        map.heatUp(1, 1, 40);
        map.heatUp(4, 0, 30);
        map.heatUp(7, 7, 30);
        map.setGround(0, 0, '#');
        int[] firsts = {9, 4, 5, 63, 0, 1, 2, 3, 6, 7, 8, 10};
        for (int rank = 0; rank < firsts.length; rank++) {
            int place = rank;
            tally.due("P9 rank " + rank, firsts[rank], () -> map.cellAtRank(place));
        }
        tally.due("P9 last rank", 62, () -> map.cellAtRank(63));
        for (int rank : new int[] {-1, 64, Integer.MIN_VALUE, Integer.MAX_VALUE}) {
            tally.dueThrows("P9 no rank", NoSuchElementException.class, () -> map.cellAtRank(rank));
        }
        MapSanatorium embers = Maps.withEmbersOnly();
        tally.due("P9 embers are no heat", 1, () -> embers.cellAtRank(0));
        tally.due("P9 nor for the others", 0, () -> embers.cellAtRank(2));
    }

    private void refusals() {
        MapSanatorium map = new MapSanatorium();
        tally.dueThrows("P10 none", NoSuchElementException.class, map::refusalReason);
        tally.dueThrows("P11 none", NoSuchElementException.class, map::refusalDetail);
        map.setGround(0, 0, '#');
        tally.dueThrows("P4 rock", UnsupportedOperationException.class, () -> map.heatUp(0, 0, 5));
        tally.due("P10 cell 0", 1, map::refusalReason);
        tally.due("P11 cell 0", 0, map::refusalDetail);
        map.heatUp(1, 0, 5);
        tally.due("P10 stays behind a success", 1, map::refusalReason);
        tally.dueThrows("P2 warm", UnsupportedOperationException.class, () -> map.setGround(1, 0, '#'));
        tally.due("P10 the last one", 2, map::refusalReason);
        tally.due("P11 the last one", 5, map::refusalDetail);
        tally.dueThrows("P32 rock", UnsupportedOperationException.class, () -> map.classOf(0, 0, 1));
        tally.due("P10 a class is not refused", 2, map::refusalReason);
        map.save();
        map.undo();
        map.undo();
        map.restore();
        tally.due("P10 neither undone nor restored", 2, map::refusalReason);
        tally.due("P11 neither undone nor restored", 5, map::refusalDetail);
    }
}
