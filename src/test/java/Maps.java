/** Maps and texts that several tests start from. */
final class Maps {
    private Maps() {
    }

    /** Makes a map of plain in which each '#' of the picture has that heat. */
    static MapSanatorium pictured(int heat, String... rows) {
        MapSanatorium map = new MapSanatorium();
        for (int y = 0; y < rows.length; y++) {
            for (int x = 0; x < rows[y].length(); x++) {
                if (rows[y].charAt(x) == '#') {
                    map.heatUp(x, y, heat);
                }
            }
        }
        return map;
    }

    /** Makes a map of rock but for the first cells, which are plain with these heats. */
    static MapSanatorium inRock(int... heats) {
        MapSanatorium map = new MapSanatorium();
        for (int cell = 0; cell < 64; cell++) {
            if (cell >= heats.length) {
                map.setGround(cell % 8, cell / 8, '#');
            } else if (heats[cell] > 0) {
                map.heatUp(cell % 8, cell / 8, heats[cell]);
            }
        }
        return map;
    }

    /** Makes a map in which rock lies all round the cell (3, 3). */
    static MapSanatorium walledIn() {
        MapSanatorium map = new MapSanatorium();
        map.setGround(3, 2, '#');
        map.setGround(4, 3, '#');
        map.setGround(3, 4, '#');
        map.setGround(2, 3, '#');
        return map;
    }

    /**
     * Makes a map whose cell (0, 0) has 100 embers and no heat. It and its neighbours, which have
     * a heat of 150 each, are water; rock lies round the three. Two ticks have passed.
     */
    static MapSanatorium withEmbersOnly() {
        MapSanatorium map = new MapSanatorium();
        map.setGround(1, 0, '#');
        map.setGround(0, 1, '#');
        map.setGround(2, 0, '#');
        map.setGround(1, 1, '#');
        map.setGround(0, 2, '#');
        map.setBorder(0, 9999);
        map.setBorder(3, 9999);
        map.heatUp(0, 0, 700);
        map.pass(1);
        map.setBorder(0, 0);
        map.setBorder(3, 0);
        map.setGround(0, 0, '~');
        map.setGround(1, 0, '~');
        map.setGround(0, 1, '~');
        map.pass(1);
        return map;
    }

    /**
     * Makes a map that has something of everything: that of withEmbersOnly() with 40 units of heat
     * in (5, 5), sand in (6, 6) and a border of 30 below, and these three behind the snapshot; more
     * changes than can be undone; the refusal 2 with the detail 150; the error position 7; the failed
     * command 1; the line "e1#....."; and the command text "heat 77+5".
     */
    static MapSanatorium used() {
        MapSanatorium map = usedWithoutText();
        write(map, "heat 77+5");
        return map;
    }

    static MapSanatorium usedWithoutText() {
        MapSanatorium map = withEmbersOnly();
        map.save();
        map.heatUp(5, 5, 40);
        map.setGround(6, 6, ':');
        map.setBorder(2, 30);
        Whole.answerOf(() -> map.setGround(1, 0, '#'));
        write(map, "pass 1;x");
        Whole.answerOf(map::run);
        write(map, "pass 1;pass 0");
        Whole.answerOf(map::run);
        map.describeRow(0);
        return map;
    }

    /**
     * Makes a map whose cell (3, 3) has relapsed to a heat above 9999, which heatUp() alone never
     * reaches: behind rock it collects embers, opened below it cools, and a hot neighbour lights it.
     */
    static MapSanatorium withGreatRelapse() {
        MapSanatorium map = walledIn();
        for (int round = 0; round < 2; round++) {
            heatMuch(map, 3, 3, 9999 - map.heatAt(3, 3));
            passMany(map, 100);
        }
        map.setGround(3, 4, '.');
        passMany(map, 160);
        map.setGround(3, 2, '.');
        heatMuch(map, 3, 2, 1500);
        map.pass(1);
        return map;
    }

    /**
     * Makes a map whose cells (4, 0) and (5, 0) have 2000 embers and a heat of 7 each; rock lies round
     * the two. 100 ticks have passed.
     */
    static MapSanatorium withEmbersInARow() {
        MapSanatorium map = new MapSanatorium();
        for (int x = 2; x < 7; x++) {
            map.setGround(x, 1, '#');
        }
        map.setGround(2, 0, '#');
        map.setGround(3, 0, '#');
        map.setGround(6, 0, '#');
        map.setBorder(0, 9999);
        heatMuch(map, 4, 0, 2600);
        heatMuch(map, 5, 0, 2600);
        map.pass(20);
        map.setBorder(0, 0);
        passMany(map, 80);
        return map;
    }

    /** Puts heat into (3, 0), which is rock up to here, so that (4, 0) relapses in the next tick. */
    static void heatBeside(MapSanatorium map) {
        map.setBorder(0, 9999);
        map.setGround(3, 0, '.');
        map.heatUp(3, 0, 999);
    }

    /** Makes a map whose cells (3, 0) and (5, 0) have 100 embers and a heat of 7 each, and (4, 0) heat. */
    static MapSanatorium withEmbersOnBothSides() {
        MapSanatorium map = inRock();
        map.setGround(3, 0, '.');
        map.setGround(5, 0, '.');
        map.setBorder(0, 9999);
        map.heatUp(3, 0, 700);
        map.heatUp(5, 0, 700);
        map.pass(1);
        map.setBorder(0, 0);
        passMany(map, 80);
        map.setBorder(0, 9999);
        map.setGround(4, 0, '.');
        heatMuch(map, 4, 0, 1607);
        return map;
    }

    /** The number of a cell that lies at that side and at no other. */
    static int atSide(int side) {
        int[] cells = {3, 39, 58, 32};
        return cells[side];
    }

    /** Makes a map whose only heat is at that side, in a cell with rock all round. */
    static MapSanatorium warmAt(int side, int heat) {
        MapSanatorium map = new MapSanatorium();
        int cell = atSide(side);
        for (int other = 0; other < 64; other++) {
            if (Math.abs(cell % 8 - other % 8) + Math.abs(cell / 8 - other / 8) == 1) {
                map.setGround(other % 8, other / 8, '#');
            }
        }
        heatMuch(map, cell % 8, cell / 8, heat);
        return map;
    }

    static void passMany(MapSanatorium map, int ticks) {
        for (int left = ticks; left > 0; left -= 20) {
            map.pass(Math.min(left, 20));
        }
    }

    /** Adds more heat than one call takes. */
    static void heatMuch(MapSanatorium map, int x, int y, int amount) {
        for (int left = amount; left > 0; left -= 999) {
            map.heatUp(x, y, Math.min(left, 999));
        }
    }

    static void write(MapSanatorium map, String text) {
        for (char character : text.toCharArray()) {
            map.append(character);
        }
    }

    static String line(MapSanatorium map, int length) {
        StringBuilder line = new StringBuilder();
        for (int index = 0; index < length; index++) {
            line.append(map.lineAt(index));
        }
        return line.toString();
    }

    static String row(MapSanatorium map, int y) {
        return line(map, map.describeRow(y));
    }

    static String legend(MapSanatorium map, int classes) {
        return line(map, map.describeLegend(classes));
    }
}
