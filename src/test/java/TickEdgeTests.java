import java.util.NoSuchElementException;

/** The boundary cases of promises 12 to 18. */
final class TickEdgeTests {
    private static final Class<IndexOutOfBoundsException> NO_SIDE = IndexOutOfBoundsException.class;
    private static final Class<IllegalArgumentException> OUT_OF_RANGE = IllegalArgumentException.class;
    private static final int[] SLOWNESSES = {4, 8, 2};
    private static final String GROUNDS = ".:~";
    private final Tally tally;

    private TickEdgeTests(Tally tally) {
        this.tally = tally;
    }

    static void run(Tally tally) {
        TickEdgeTests tests = new TickEdgeTests(tally);
        tests.promises12To14Sides();
        tests.promise12Temperatures();
        tests.promise12FirstException();
        tests.promise15Numbers();
        tests.promise15FlowRoundedDown();
        tests.promise15NeighboursAtTheEdge();
        tests.promise15LeavingRoundedDown();
        tests.promise15NothingComesIn();
        tests.promise15Corners();
        tests.promise15RockAtTheEdge();
        tests.promise15Embers();
        tests.promise15EmbersBehindTheFlow();
        tests.promise15Relapses();
        tests.promise15EachRelapseCounts();
        tests.promise15NoRelapse();
        tests.promises16And17Counts();
        tests.promise18Levels();
        tests.promise18Ticks();
        tests.promise18AsTicksPass();
        tests.promise18ChangesNothing();
    }

    private Edge edge(String what, Edge.Caller caller) {
        return new Edge(tally, what, caller);
    }

    private void promises12To14Sides() {
        edge("P12 side", (map, side) -> map.setBorder(side, 7)).takes(0, 0).takes(2, 30).takes(3, 0)
                .takesNoneBeyond(0, 3, NO_SIDE);
        edge("P13 side", MapSanatorium::border).takes(0, 0).takes(2, 30).takes(3, 0).takesNoneBeyond(0, 3, NO_SIDE);
        edge("P14 side", MapSanatorium::lostBy).takes(0, 150).takes(1, 0).takes(3, 150)
                .takesNoneBeyond(0, 3, NO_SIDE);
        for (int side = 0; side < 4; side++) {
            MapSanatorium map = new MapSanatorium();
            map.setBorder(side, 9);
            for (int other = 0; other < 4; other++) {
                int place = other;
                tally.due("P12 only the side " + side, other == side ? 9 : 0, () -> map.border(place));
            }
        }
    }

    private void promise12Temperatures() {
        edge("P12 temperature", (map, temperature) -> map.setBorder(2, temperature)).takes(0, 30).takes(9999, 30)
                .takesNoneBeyond(0, 9999, OUT_OF_RANGE);
        edge("P13 temperature", (map, temperature) -> {
            map.setBorder(2, temperature);
            return map.border(2);
        }).takes(0, 0).takes(9999, 9999);
    }

    private void promise12FirstException() {
        Whole.dueThrows(tally, "P12 no side before no temperature", NO_SIDE, map -> map.setBorder(4, -1));
        Whole.dueThrows(tally, "P12 no side before too high a temperature", NO_SIDE,
                map -> map.setBorder(-1, 10000));
    }

    private void promise15Numbers() {
        edge("P15 ticks", MapSanatorium::pass).takes(1, 0).takes(20, 0).takesNoneBeyond(1, 20, OUT_OF_RANGE);
        edge("P16 ticks", (map, ticks) -> {
            map.pass(ticks);
            return map.ticks();
        }).takes(1, 3).takes(20, 22);
    }

    /** One unit flows from a difference of as much as both slownesses, and two from twice as much. */
    private void promise15FlowRoundedDown() {
        for (int from = 0; from < 3; from++) {
            for (int to = 0; to < 3; to++) {
                int both = SLOWNESSES[from] + SLOWNESSES[to];
                dueFlow(from, to, both - 1, 0);
                dueFlow(from, to, both, 1);
                dueFlow(from, to, 2 * both - 1, 1);
                dueFlow(from, to, 2 * both, 2);
            }
        }
    }

    private void dueFlow(int from, int to, int difference, int flow) {
        for (int other : new int[] {0, 5}) {
            MapSanatorium map = new MapSanatorium();
            for (int[] rock : new int[][] {{3, 2}, {4, 2}, {2, 3}, {5, 3}, {3, 4}, {4, 4}}) {
                map.setGround(rock[0], rock[1], '#');
            }
            map.setGround(3, 3, GROUNDS.charAt(from));
            map.setGround(4, 3, GROUNDS.charAt(to));
            map.heatUp(3, 3, difference + other);
            Maps.heatMuch(map, 4, 3, other);
            map.pass(1);
            String grounds = " from " + GROUNDS.charAt(from) + " to " + GROUNDS.charAt(to);
            String what = "P15 a difference of " + difference + grounds;
            tally.due(what, difference + other - flow, () -> map.heatAt(3, 3));
            tally.due(what, other + flow, () -> map.heatAt(4, 3));
        }
    }

    /** The last cell of a row and the first one of the next are no neighbours, nor are corners. */
    private void promise15NeighboursAtTheEdge() {
        for (int cell = 0; cell < 64; cell++) {
            MapSanatorium map = new MapSanatorium();
            map.heatUp(cell % 8, cell / 8, 80);
            map.pass(1);
            for (int other = 0; other < 64; other++) {
                int x = other % 8;
                int y = other / 8;
                int distance = Math.abs(cell % 8 - x) + Math.abs(cell / 8 - y);
                int heat = distance == 0 ? 40 : distance == 1 ? 10 : 0;
                tally.due("P15 flow from " + cell + " to " + other, heat, () -> map.heatAt(x, y));
            }
        }
    }

    private void promise15LeavingRoundedDown() {
        for (int side = 0; side < 4; side++) {
            for (int ground = 0; ground < 3; ground++) {
                int twice = 2 * SLOWNESSES[ground];
                for (int border : new int[] {0, 50}) {
                    dueLeaving(side, ground, border, border, 0);
                    dueLeaving(side, ground, border, border + twice - 1, 0);
                    dueLeaving(side, ground, border, border + twice, 1);
                    dueLeaving(side, ground, border, border + 2 * twice - 1, 1);
                    dueLeaving(side, ground, border, border + 2 * twice, 2);
                }
            }
        }
    }

    private void dueLeaving(int side, int ground, int border, int heat, int flow) {
        MapSanatorium map = Maps.warmAt(side, heat);
        map.setGround(Maps.atSide(side) % 8, Maps.atSide(side) / 8, GROUNDS.charAt(ground));
        map.setBorder(side, border);
        map.pass(1);
        String what = "P15 " + heat + " in " + GROUNDS.charAt(ground) + " at the border " + side + " of " + border;
        tally.due(what, heat - flow, () -> map.heatAt(Maps.atSide(side) % 8, Maps.atSide(side) / 8));
        for (int other = 0; other < 4; other++) {
            int place = other;
            tally.due("P14 side " + other + " behind " + what, other == side ? flow : 0, () -> map.lostBy(place));
        }
    }

    private void promise15NothingComesIn() {
        for (int side = 0; side < 4; side++) {
            for (int heat : new int[] {0, 1, 9}) {
                MapSanatorium map = Maps.warmAt(side, heat);
                for (int border = 0; border < 4; border++) {
                    map.setBorder(border, 9999);
                }
                map.pass(20);
                int place = side;
                tally.due("P15 nothing comes in by " + side, heat, map::allHeat);
                tally.due("P14 nothing leaves by " + side, 0, () -> map.lostBy(place));
            }
        }
    }

    /** A corner loses by the two borders at which it lies, and nothing by the others. */
    private void promise15Corners() {
        int[][] sidesOfCorners = {{0, 3}, {0, 1}, {2, 3}, {1, 2}};
        for (int corner = 0; corner < 4; corner++) {
            int x = corner % 2 * 7;
            int y = corner / 2 * 7;
            MapSanatorium map = new MapSanatorium();
            map.heatUp(x, y, 8);
            map.pass(1);
            tally.due("P15 two borders and two neighbours", 4, () -> map.heatAt(x, y));
            for (int side = 0; side < 4; side++) {
                int place = side;
                boolean lies = sidesOfCorners[corner][0] == side || sidesOfCorners[corner][1] == side;
                tally.due("P14 corner " + corner + " by side " + side, lies ? 1 : 0, () -> map.lostBy(place));
            }
        }
        MapSanatorium inner = new MapSanatorium();
        inner.heatUp(1, 1, 80);
        inner.heatUp(6, 6, 80);
        inner.pass(1);
        tally.due("P15 a cell beside the edge lies at no border", 160, inner::allHeat);
    }

    private void promise15RockAtTheEdge() {
        MapSanatorium rock = Maps.inRock();
        rock.pass(20);
        for (int side = 0; side < 4; side++) {
            int place = side;
            tally.due("P15 nothing leaves rock", 0, () -> rock.lostBy(place));
        }
        MapSanatorium corner = Maps.inRock(80);
        corner.pass(1);
        tally.due("P15 a corner in rock has its borders alone", 60, () -> corner.heatAt(0, 0));
        tally.due("P15 nothing flows into rock", 0, () -> corner.heatAt(1, 0) + corner.heatAt(0, 1));
    }

    private void promise15Embers() {
        dueEmbers(699, 1, 0);
        dueEmbers(700, 1, 100);
        dueEmbers(799, 2, 100);
        dueEmbers(800, 2, 200);
        dueEmbers(9999, 1, 100);
        dueEmbers(9999, 20, 2000);
    }

    private void dueEmbers(int heat, int ticks, int embers) {
        MapSanatorium map = Maps.walledIn();
        Maps.heatMuch(map, 3, 3, heat);
        map.pass(ticks);
        tally.due("P6 of " + heat + " in " + ticks, embers, () -> map.embersAt(3, 3));
        tally.due("P5 of " + heat + " in " + ticks, heat - embers, () -> map.heatAt(3, 3));
        tally.due("P7 of " + heat + " in " + ticks, heat, map::allHeat);
    }

    /** What counts is the heat behind the flow, both of the cell that gives and of the one that takes. */
    private void promise15EmbersBehindTheFlow() {
        MapSanatorium gives = Maps.inRock(0, 0);
        gives.setBorder(0, 9999);
        gives.heatUp(1, 0, 799);
        gives.pass(1);
        tally.due("P15 799 of which 99 flow", 600, () -> gives.heatAt(1, 0));
        tally.due("P6 of the 700 that stay", 100, () -> gives.embersAt(1, 0));
        MapSanatorium givesMore = Maps.inRock(0, 0);
        givesMore.setBorder(0, 9999);
        givesMore.heatUp(1, 0, 798);
        givesMore.pass(1);
        tally.due("P6 of the 699 that stay", 0, () -> givesMore.embersAt(1, 0));
        MapSanatorium takes = Maps.inRock(0, 699);
        takes.setBorder(0, 9999);
        takes.setBorder(3, 9999);
        takes.heatUp(0, 0, 707);
        takes.pass(1);
        tally.due("P5 of 699 and one that comes", 600, () -> takes.heatAt(1, 0));
        tally.due("P6 of 699 and one that comes", 100, () -> takes.embersAt(1, 0));
    }

    /** The heat of the cell and that of its neighbour before the tick are chosen for what they are behind it. */
    private void promise15Relapses() {
        tally.due("P15 beside 500", 1, () -> lit(848).pass(1));
        tally.due("P15 beside 499", 0, () -> lit(847).pass(1));
        tally.due("P15 cooled to 299", 1, () -> lit(901).pass(1));
        tally.due("P15 cooled to 300", 0, () -> lit(902).pass(1));
        tally.due("P6 all of its embers", 0, () -> passed(lit(848)).embersAt(0, 0));
        tally.due("P5 become heat", 386, () -> passed(lit(848)).heatAt(0, 0));
        tally.due("P17 is one relapse", 1, () -> passed(lit(848)).relapses());
        MapSanatorium great = Maps.withGreatRelapse();
        tally.due("P17 many embers are one relapse", 1, great::relapses);
        tally.due("P6 all of many embers", 0, () -> great.embersAt(3, 3));
    }

    private static MapSanatorium lit(int amount) {
        MapSanatorium map = Maps.withEmbersOnly();
        map.heatUp(1, 0, amount);
        return map;
    }

    private static MapSanatorium passed(MapSanatorium map) {
        map.pass(1);
        return map;
    }

    /** Two cells relapse in one tick, in two ticks of one call, and in the ticks of two calls. */
    private void promise15EachRelapseCounts() {
        MapSanatorium together = Maps.withEmbersOnBothSides();
        tally.due("P15 two in one tick", 2, () -> together.pass(1));
        tally.due("P17 two in one tick", 2, together::relapses);
        tally.due("P5 the first of the two", 7 + 200 + 100, () -> together.heatAt(3, 0));
        tally.due("P5 the second of the two", 7 + 200 + 100, () -> together.heatAt(5, 0));
        tally.due("P7 two in one tick", together.allHeatByAccounts(), together::allHeat);
        MapSanatorium inARow = Maps.withEmbersInARow();
        Maps.heatBeside(inARow);
        tally.due("P15 one in each of two ticks", 2, () -> inARow.pass(2));
        tally.due("P17 one in each of two ticks", 2, inARow::relapses);
        MapSanatorium apart = Maps.withEmbersInARow();
        Maps.heatBeside(apart);
        tally.due("P15 one in the first call", 1, () -> apart.pass(1));
        tally.due("P15 one in the second call", 1, () -> apart.pass(1));
        tally.due("P17 of both calls", 2, apart::relapses);
    }

    private void promise15NoRelapse() {
        MapSanatorium none = new MapSanatorium();
        Maps.heatMuch(none, 4, 4, 2000);
        tally.due("P15 no embers, no relapse", 0, () -> none.pass(1));
        MapSanatorium corner = Maps.withEmbersOnly();
        corner.setGround(1, 1, '.');
        Maps.heatMuch(corner, 1, 1, 1500);
        tally.due("P15 a cell at a corner is no neighbour", 0, () -> corner.pass(1));
        tally.due("P5 though it is hot", 1, () -> Tally.truth(corner.heatAt(1, 1) >= 500));
        tally.due("P6 so the embers stay", 100, () -> corner.embersAt(0, 0));
        MapSanatorium rows = embersAtEndOfRow();
        rows.heatUp(0, 1, 999);
        rows.pass(1);
        tally.due("P15 the next row is no neighbour", 0, rows::relapses);
        tally.due("P5 though it is hot too", 1, () -> Tally.truth(rows.heatAt(0, 1) >= 500));
        rows.heatUp(7, 1, 999);
        rows.pass(1);
        tally.due("P15 the cell below is", 1, rows::relapses);
    }

    /** Makes a map with 100 embers in (7, 0) and little heat; rock is beside it, plain below. */
    private static MapSanatorium embersAtEndOfRow() {
        MapSanatorium map = new MapSanatorium();
        map.setGround(6, 0, '#');
        map.setGround(7, 1, '#');
        map.setBorder(0, 9999);
        map.setBorder(1, 9999);
        map.heatUp(7, 0, 700);
        map.pass(1);
        map.setBorder(0, 0);
        map.setBorder(1, 0);
        Maps.passMany(map, 60);
        map.setGround(7, 1, '.');
        return map;
    }

    private void promises16And17Counts() {
        Whole.dueQuestion(tally, "P16 reading", 2, MapSanatorium::ticks);
        Whole.dueQuestion(tally, "P17 reading", 0, MapSanatorium::relapses);
        MapSanatorium map = lit(848);
        tally.due("P15 a relapse in the first of twenty ticks", 1, () -> map.pass(20));
        tally.due("P16 and all ticks", 22, map::ticks);
        tally.due("P15 none in the next ones", 0, () -> map.pass(20));
        tally.due("P17 still one", 1, map::relapses);
        tally.due("P7 nothing is added behind a relapse", map.allHeatByAccounts(), map::allHeat);
    }

    private void promise18Levels() {
        edge("P18 level", MapSanatorium::ticksUntilBelow).takes(9999, 0).takes(151, 0)
                .takesNoneBeyond(1, 9999, OUT_OF_RANGE);
        tally.due("P18 the least level", 0, () -> new MapSanatorium().ticksUntilBelow(1));
        Whole.dueThrows(tally, "P18 too many ticks for the least level", NoSuchElementException.class,
                map -> map.ticksUntilBelow(1));
    }

    /** Behind rock, each tick takes 100 units as long as the heat is at least 700. */
    private void promise18Ticks() {
        MapSanatorium map = Maps.walledIn();
        Maps.heatMuch(map, 3, 3, 2700);
        tally.due("P18 less than the level now", 0, () -> map.ticksUntilBelow(2701));
        tally.due("P18 the level itself is not less", 1, () -> map.ticksUntilBelow(2700));
        tally.due("P18 twenty ticks", 20, () -> map.ticksUntilBelow(701));
        tally.dueThrows("P18 twenty-one ticks", NoSuchElementException.class, () -> map.ticksUntilBelow(700));
        tally.due("P18 one tick less of what is left", 20, () -> passed(map).ticksUntilBelow(700));
        tally.due("P18 from above the greatest level", 3, () -> Maps.withGreatRelapse().ticksUntilBelow(9999));
    }

    /** A relapse lifts the heat of a cell on the way; the first tick that is below the level counts. */
    private void promise18AsTicksPass() {
        for (int level : new int[] {998, 999, 501, 500, 387, 386, 300, 200, 150, 100, 1}) {
            MapSanatorium map = lit(848);
            int ticks = 0;
            while (ticks <= 20 && map.cellBits(level) != 0) {
                map.pass(1);
                ticks++;
            }
            String want = ticks > 20 ? "NoSuchElementException " : ticks + " ";
            tally.due("P18 until below " + level, want, Whole.answerOf(() -> lit(848).ticksUntilBelow(level)));
        }
    }

    private void promise18ChangesNothing() {
        Whole.dueQuestion(tally, "P18 a forecast", 1, map -> map.ticksUntilBelow(150));
    }
}
