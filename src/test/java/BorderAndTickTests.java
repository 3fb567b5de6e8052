import java.util.NoSuchElementException;

/** Promises 12 to 18, and what ticks do. */
final class BorderAndTickTests {
    private final Tally tally;

    private BorderAndTickTests(Tally tally) {
        this.tally = tally;
    }

    static void run(Tally tally) {
        BorderAndTickTests tests = new BorderAndTickTests(tally);
        tests.borders();
        tests.flowBetweenNeighbours();
        tests.flowAtOnce();
        tests.flowByBorders();
        tests.rockStopsFlow();
        tests.embers();
        tests.relapseNeedsHotNeighbour();
        tests.relapseNeedsCoolCell();
        tests.relapseByEachNeighbour();
        tests.relapsesAtOnce();
        tests.passing();
        tests.forecast();
    }

    private void borders() {
        MapSanatorium map = new MapSanatorium();
        for (int side = 0; side < 4; side++) {
            int place = side;
            tally.due("P12 first", 0, () -> map.setBorder(place, 10 + place));
        }
        for (int side = 0; side < 4; side++) {
            int place = side;
            tally.due("P13 each its own", 10 + place, () -> map.border(place));
        }
        tally.due("P12 most", 11, () -> map.setBorder(1, 9999));
        tally.due("P12 least", 9999, () -> map.setBorder(1, 0));
        tally.due("P13 least", 0, () -> map.border(1));
    }

    private void flowBetweenNeighbours() {
        String grounds = ".:~";
        int[][] flows = {{12, 8, 16}, {8, 6, 9}, {16, 9, 24}};
        for (int from = 0; from < 3; from++) {
            for (int to = 0; to < 3; to++) {
                MapSanatorium map = new MapSanatorium();
                map.setGround(3, 3, grounds.charAt(from));
                map.setGround(4, 3, grounds.charAt(to));
                map.setGround(3, 4, grounds.charAt(to));
                map.setGround(2, 3, '#');
                map.setGround(3, 2, '#');
                map.heatUp(3, 3, 99);
                map.pass(1);
                int flow = flows[from][to];
                tally.due("P15 flow to the right", flow, () -> map.heatAt(4, 3));
                tally.due("P15 flow down", flow, () -> map.heatAt(3, 4));
                tally.due("P15 what stays", 99 - 2 * flow, () -> map.heatAt(3, 3));
            }
        }
        MapSanatorium even = Maps.pictured(7, "", "", "", "...#");
        even.pass(1);
        tally.due("P15 too little to flow", 7, () -> even.heatAt(3, 3));
        even.heatUp(3, 3, 1);
        even.pass(1);
        tally.due("P15 just enough to flow", 4, () -> even.heatAt(3, 3));
        tally.due("P15 up", 1, () -> even.heatAt(3, 2));
        tally.due("P15 left", 1, () -> even.heatAt(2, 3));
        tally.due("P15 not across a corner", 0, () -> even.heatAt(2, 2));
    }

    private void flowAtOnce() {
        MapSanatorium map = Maps.pictured(160, "", "", "", "...##");
        map.pass(1);
        tally.due("P15 equal heats do not flow", 100, () -> map.heatAt(3, 3));
        tally.due("P15 nor the other way", 100, () -> map.heatAt(4, 3));
        tally.due("P15 beside", 20, () -> map.heatAt(5, 3));
        tally.due("P15 not farther in a tick", 0, () -> map.heatAt(6, 3));
        MapSanatorium corner = Maps.pictured(80, "#");
        corner.pass(1);
        tally.due("P15 two neighbours and two borders", 40, () -> corner.heatAt(0, 0));
        MapSanatorium end = Maps.pictured(80, ".......#");
        end.pass(1);
        tally.due("P15 the end of a row", 40, () -> end.heatAt(7, 0));
        tally.due("P15 is no neighbour of the next row", 0, () -> end.heatAt(0, 1));
    }

    private void flowByBorders() {
        MapSanatorium map = new MapSanatorium();
        for (int cell = 0; cell < 64; cell++) {
            map.heatUp(cell % 8, cell / 8, 100);
        }
        map.setBorder(0, 10);
        map.setBorder(1, 100);
        map.setBorder(2, 93);
        map.setBorder(3, 92);
        map.setGround(1, 0, ':');
        map.setGround(2, 0, '~');
        map.pass(1);
        // a plain cell loses 90 / 8 = 11, the one of sand 90 / 16 = 5, that of water 90 / 4 = 22
        tally.due("P14 top", 6 * 11 + 5 + 22, () -> map.lostBy(0));
        tally.due("P14 right: not above the border", 0, () -> map.lostBy(1));
        tally.due("P14 bottom: too little above", 0, () -> map.lostBy(2));
        tally.due("P14 left", 8, () -> map.lostBy(3));
        tally.due("P15 corner", 88, () -> map.heatAt(0, 0));
        tally.due("P15 sand", 95, () -> map.heatAt(1, 0));
        tally.due("P15 water", 78, () -> map.heatAt(2, 0));
        tally.due("P15 right", 100, () -> map.heatAt(7, 3));
        tally.due("P15 bottom", 100, () -> map.heatAt(3, 7));
        tally.due("P15 left", 99, () -> map.heatAt(0, 3));
        MapSanatorium cold = new MapSanatorium();
        cold.setBorder(0, 9999);
        cold.heatUp(3, 0, 1);
        cold.pass(20);
        tally.due("P15 no heat comes in", 1, cold::allHeat);
        tally.due("P14 none leaves", 0, () -> cold.lostBy(0));
        eachSide();
    }

    private void eachSide() {
        int[][] cells = {{3, 0}, {7, 3}, {3, 7}, {0, 3}};
        for (int side = 0; side < 4; side++) {
            MapSanatorium map = new MapSanatorium();
            map.heatUp(cells[side][0], cells[side][1], 80);
            map.pass(1);
            for (int other = 0; other < 4; other++) {
                int place = other;
                tally.due("P14 side " + side, other == side ? 10 : 0, () -> map.lostBy(place));
            }
            map.pass(1);
            int lost = map.lostBy(side);
            tally.due("P14 adds up", 80 - lost, map::allHeat);
            tally.due("P14 more in the next tick", 1, () -> Tally.truth(lost > 10));
        }
    }

    private void rockStopsFlow() {
        MapSanatorium map = Maps.walledIn();
        map.heatUp(3, 3, 600);
        map.pass(20);
        tally.due("P15 nothing into rock", 600, () -> map.heatAt(3, 3));
        tally.due("P15 rock stays cold", 0, () -> map.heatAt(3, 2));
        MapSanatorium edge = Maps.inRock(0, 0, 0);
        edge.heatUp(1, 0, 80);
        edge.pass(1);
        tally.due("P14 only the heated cell loses", 10, () -> edge.lostBy(0));
        tally.due("P15 down is rock", 50, () -> edge.heatAt(1, 0));
    }

    private void embers() {
        MapSanatorium map = Maps.walledIn();
        map.heatUp(3, 3, 699);
        map.pass(1);
        tally.due("P6 none below 700", 0, () -> map.embersAt(3, 3));
        map.heatUp(3, 3, 1);
        map.pass(1);
        tally.due("P6 at 700", 100, () -> map.embersAt(3, 3));
        tally.due("P5 less by as many", 600, () -> map.heatAt(3, 3));
        map.heatUp(3, 3, 300);
        map.pass(3);
        tally.due("P6 one tick after the other", 400, () -> map.embersAt(3, 3));
        tally.due("P5 until it is below 700", 600, () -> map.heatAt(3, 3));
        MapSanatorium open = Maps.pictured(700, "", "", "", "...#");
        open.pass(1);
        tally.due("P6 heat flows first", 0, () -> open.embersAt(3, 3));
    }

    private void relapseNeedsHotNeighbour() {
        MapSanatorium cool = Maps.withEmbersOnly();
        cool.heatUp(1, 0, 847);
        tally.due("P15 a neighbour of 499", 0, () -> cool.pass(1));
        tally.due("P5 the neighbour", 499, () -> cool.heatAt(1, 0));
        tally.due("P6 embers stay", 100, () -> cool.embersAt(0, 0));
        tally.due("P5 no relapse", 286, () -> cool.heatAt(0, 0));
        MapSanatorium hot = Maps.withEmbersOnly();
        hot.heatUp(0, 1, 848);
        tally.due("P15 a neighbour of 500", 1, () -> hot.pass(1));
        tally.due("P5 its heat", 500, () -> hot.heatAt(0, 1));
        tally.due("P6 no embers left", 0, () -> hot.embersAt(0, 0));
        tally.due("P5 relapsed", 386, () -> hot.heatAt(0, 0));
        tally.due("P17 one", 1, hot::relapses);
        tally.due("P7 nothing is lost", hot.allHeatByAccounts(), hot::allHeat);
    }

    private void relapseNeedsCoolCell() {
        MapSanatorium cool = Maps.withEmbersOnly();
        cool.heatUp(1, 0, 901);
        tally.due("P15 a heat of 299", 1, () -> cool.pass(1));
        tally.due("P5 299 and 100", 399, () -> cool.heatAt(0, 0));
        MapSanatorium warm = Maps.withEmbersOnly();
        warm.heatUp(1, 0, 902);
        tally.due("P15 a heat of 300", 0, () -> warm.pass(1));
        tally.due("P5 stays 300", 300, () -> warm.heatAt(0, 0));
        tally.due("P17 none", 0, warm::relapses);
    }

    /** Each of the four neighbours in turn is the only hot one. */
    private void relapseByEachNeighbour() {
        int[][] sides = {{3, 2}, {4, 3}, {3, 4}, {2, 3}};
        for (int[] side : sides) {
            MapSanatorium map = Maps.walledIn();
            map.heatUp(3, 3, 700);
            map.pass(1);
            map.setGround(3, 4, '.');
            for (int call = 0; call < 8; call++) {
                map.pass(20);
            }
            tally.due("P6 embers that wait", 100, () -> map.embersAt(3, 3));
            tally.due("P15 cool enough", 1, () -> Tally.truth(map.heatAt(3, 3) < 50));
            map.setGround(side[0], side[1], ':');
            Maps.heatMuch(map, side[0], side[1], 1500);
            tally.due("P15 lit by a neighbour", 1, () -> map.pass(1));
            tally.due("P6 embers gone", 0, () -> map.embersAt(3, 3));
        }
    }

    /** A cell that relapses to 500 or more makes its neighbour relapse in the next tick only. */
    private void relapsesAtOnce() {
        MapSanatorium map = Maps.withEmbersInARow();
        tally.due("P6 in both", 2000, () -> map.embersAt(4, 0));
        tally.due("P5 cool now", 7, () -> map.heatAt(4, 0));
        Maps.heatBeside(map);
        tally.due("P15 the nearer one", 1, () -> map.pass(1));
        tally.due("P5 relapsed", 2131, () -> map.heatAt(4, 0));
        tally.due("P5 not yet", 7, () -> map.heatAt(5, 0));
        tally.due("P15 the farther one", 1, () -> map.pass(1));
        tally.due("P5 relapsed later", 2272, () -> map.heatAt(5, 0));
        tally.due("P5 the nearer one cools", 1597, () -> map.heatAt(4, 0));
        tally.due("P7 a relapse counts once", map.allHeatByAccounts(), map::allHeat);
        tally.due("P17 both", 2, map::relapses);
    }

    private void passing() {
        MapSanatorium map = Maps.withEmbersOnly();
        tally.due("P16 each tick counts", 2, map::ticks);
        tally.due("P15 no relapses", 0, () -> map.pass(20));
        tally.due("P16 most at once", 22, map::ticks);
        tally.due("P15 least at once", 0, () -> map.pass(1));
        tally.due("P16 least at once", 23, map::ticks);
        MapSanatorium twice = Maps.withEmbersOnly();
        twice.heatUp(1, 0, 848);
        tally.due("P15 only the relapses of these ticks", 1, () -> twice.pass(2));
        tally.due("P7 nothing comes twice", twice.allHeatByAccounts(), twice::allHeat);
        tally.due("P15 none in the next ones", 0, () -> twice.pass(2));
        tally.due("P17 all so far", 1, twice::relapses);
    }

    private void forecast() {
        MapSanatorium map = Maps.walledIn();
        map.heatUp(3, 3, 900);
        tally.due("P18 now", 0, () -> map.ticksUntilBelow(901));
        tally.due("P18 not below its own heat", 1, () -> map.ticksUntilBelow(900));
        tally.due("P18 a tick", 1, () -> map.ticksUntilBelow(801));
        tally.due("P18 two", 2, () -> map.ticksUntilBelow(701));
        tally.due("P18 three", 3, () -> map.ticksUntilBelow(700));
        tally.dueThrows("P18 never", NoSuchElementException.class, () -> map.ticksUntilBelow(600));
        tally.due("P18 passes no tick", 0, map::ticks);
        tally.due("P18 moves no heat", 900, () -> map.heatAt(3, 3));
        tally.due("P18 is no change", 4, map::undo);
        Maps.heatMuch(map, 3, 3, 9990);
        tally.due("P18 most", 20, () -> map.ticksUntilBelow(7991));
        tally.dueThrows("P18 too many", NoSuchElementException.class, () -> map.ticksUntilBelow(7990));
        tally.due("P18 a cold map", 0, () -> new MapSanatorium().ticksUntilBelow(1));
        map.heatUp(3, 3, 9);
        tally.due("P18 greatest level", 1, () -> map.ticksUntilBelow(9999));
    }
}
