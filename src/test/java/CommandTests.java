import java.util.NoSuchElementException;

/** Promises 33 to 36. */
final class CommandTests {
    private static final String SIXTY = "heat 00+999;heat 00+999;heat 00+999;heat 00+999;heat 10+9990";
    private final Tally tally;

    private CommandTests(Tally tally) {
        this.tally = tally;
    }

    static void run(Tally tally) {
        CommandTests tests = new CommandTests(tally);
        tests.carryingOut();
        tests.goodTexts();
        tests.badTexts();
        tests.longTexts();
        tests.allOrNothing();
        tests.whatIsKept();
    }

    private void carryingOut() {
        MapSanatorium map = new MapSanatorium();
        Maps.write(map, "heat 25+120;ground 34~;border 1=77;pass 2");
        tally.due("P34 four", 4, map::run);
        tally.due("P34 ticks", 2, map::ticks);
        tally.due("P34 border", 77, () -> map.border(1));
        tally.due("P34 water", '~', () -> map.groundAt(3, 4));
        MapSanatorium same = new MapSanatorium();
        same.heatUp(2, 5, 120);
        same.setGround(3, 4, '~');
        same.setBorder(1, 77);
        same.pass(2);
        for (int cell = 0; cell < 64; cell++) {
            int x = cell % 8;
            int y = cell / 8;
            tally.due("P34 heat", same.heatAt(x, y), () -> map.heatAt(x, y));
        }
        tally.dueThrows("P34 the text is empty", IllegalArgumentException.class, map::run);
        tally.due("P35 an empty text", 0, map::errorPosition);
    }

    private void goodTexts() {
        dueGood("heat 00+1", 1);
        dueGood("heat 77+0999", 1);
        dueGood("ground 07#", 1);
        dueGood("ground 70.;ground 70:;ground 70~", 3);
        dueGood("border 3=9999", 1);
        dueGood("border 0=0000", 1);
        dueGood("pass 20;pass 1;pass 01;pass 0001", 4);
        dueGood("pass 1;pass 1;pass 1;pass 1;pass 1;pass 1;pass 1;pass 1", 8);
        dueGood("ground 11#;ground 11.;heat 11+5", 3);
    }

    private void dueGood(String text, int commands) {
        MapSanatorium map = new MapSanatorium();
        Maps.write(map, text);
        tally.due("P34 " + text, commands, map::run);
        tally.dueThrows("P35 none behind " + text, NoSuchElementException.class, map::errorPosition);
        tally.dueThrows("P36 none behind " + text, NoSuchElementException.class, map::failedCommand);
        tally.due("P34 one change for " + text, 0, map::undo);
    }

    private void badTexts() {
        dueBad("", 0);
        dueBad(" pass 1", 0);
        dueBad("x", 0);
        dueBad(";", 0);
        dueBad("Pass 1", 0);
        dueBad("h", 1);
        dueBad("hot", 1);
        dueBad("heat", 4);
        dueBad("heat00+1", 4);
        dueBad("heat  00+1", 5);
        dueBad("heat 0", 6);
        dueBad("heat +5", 5);
        dueBad("heat 0+5", 6);
        dueBad("ground .", 7);
        dueBad("heat 0x+1", 6);
        dueBad("heat 000+1", 7);
        dueBad("heat 00-1", 7);
        dueBad("heat 00+", 8);
        dueBad("heat 00+;", 8);
        dueBad("heat 00+12345", 12);
        dueBad("heat 00+-5", 8);
        dueBad("heat 00+5 ", 9);
        dueBad("heat 99+9999x", 12);
        dueBad("ground 00", 9);
        dueBad("ground 00x", 9);
        dueBad("ground 00..", 10);
        dueBad("ground 0.", 8);
        dueBad("grow", 3);
        dueBad("border =5", 7);
        dueBad("border 11=5", 8);
        dueBad("border 1:5", 8);
        dueBad("border 1=", 9);
        dueBad("border 1=12345", 13);
        dueBad("bordeR 1=1", 5);
        dueBad("pass ", 5);
        dueBad("pass x", 5);
        dueBad("pass 00001", 9);
        dueBad("pass 1,pass 1", 6);
        dueBad("pass 1;", 7);
        dueBad("pass 1;;", 7);
        dueBad("pass 1; pass 1", 7);
        dueBad("pass 1;pass", 11);
        dueBad("pass 1;heat 00", 14);
        dueBad("pass 99;heat 99+0;z", 18);
        dueBad("pass 1/", 6);
        dueBad("pass 1:", 6);
    }

    private void dueBad(String text, int position) {
        MapSanatorium map = new MapSanatorium();
        Maps.write(map, text);
        tally.dueThrows("P34 " + text, IllegalArgumentException.class, map::run);
        tally.due("P35 " + text, position, map::errorPosition);
        tally.dueThrows("P36 none failed in " + text, NoSuchElementException.class, map::failedCommand);
        tally.due("P34 nothing of " + text, 0, map::ticks);
        tally.dueThrows("P34 no change of " + text, IllegalStateException.class, map::undo);
    }

    private void longTexts() {
        dueBad("pass 1;pass 1;pass 1;pass 1;pass 1;pass 1;pass 1;pass 1;", 56);
        dueBad("pass 1;pass 1;pass 1;pass 1;pass 1;pass 1;pass 1;pass 1;pass", 60);
        dueBad("pass 1;pass 1;pass 1;pass 1;pass 1;pass 1;pass 1;pass 1;pax", 58);
        MapSanatorium map = new MapSanatorium();
        Maps.write(map, SIXTY);
        tally.dueThrows("P33 sixty", IllegalStateException.class, () -> map.append('1'));
        tally.dueThrows("P34 sixty", IllegalStateException.class, map::run);
        tally.due("P36 the last one", 4, map::failedCommand);
        Maps.write(map, SIXTY.substring(0, 59));
        tally.due("P34 fifty-nine", 5, map::run);
        tally.due("P34 all of them", 3996, () -> map.heatAt(0, 0));
        tally.due("P34 the last one too", 999, () -> map.heatAt(1, 0));
    }

    private void allOrNothing() {
        MapSanatorium map = Maps.withEmbersOnly();
        map.undo();
        tally.due("P43 seven are left behind one", 6, map::undo);
        map.setGround(0, 1, '~');
        map.pass(1);
        map.save();
        Maps.write(map, "heat 10+850;ground 77:;border 2=5;pass 1;pass 0");
        tally.dueThrows("P34 the last one fails", IllegalStateException.class, map::run);
        tally.due("P34 heat", 150, () -> map.heatAt(1, 0));
        tally.due("P34 embers", 100, () -> map.embersAt(0, 0));
        tally.due("P34 ground", '.', () -> map.groundAt(7, 7));
        tally.due("P34 border", 0, () -> map.border(2));
        tally.due("P34 lost", 150, () -> map.lostBy(0));
        tally.due("P34 ticks", 2, map::ticks);
        tally.due("P34 relapses", 0, map::relapses);
        tally.due("P34 accounts", 400, map::allHeatByAccounts);
        for (int left = 7; left >= 0; left--) {
            tally.due("P34 all changes can be undone", left, map::undo);
        }
        tally.due("P34 to the oldest one", 9999, () -> map.border(0));
        tally.due("P34 before it was heated", 0, () -> map.heatAt(0, 0));
        tally.dueThrows("P43 no more", IllegalStateException.class, map::undo);
    }

    private void whatIsKept() {
        MapSanatorium map = new MapSanatorium();
        Maps.write(map, "pass 1;x");
        tally.dueThrows("P34 bad", IllegalArgumentException.class, map::run);
        Maps.write(map, "pass 1;pass 0");
        tally.dueThrows("P34 failing", IllegalStateException.class, map::run);
        tally.due("P35 stays behind a failure", 7, map::errorPosition);
        map.save();
        Maps.write(map, "pass 1;pass 1");
        tally.due("P34 good", 2, map::run);
        tally.due("P35 stays behind a success", 7, map::errorPosition);
        tally.due("P36 stays behind a success", 1, map::failedCommand);
        Maps.write(map, "pass ");
        map.undo();
        map.append('1');
        map.restore();
        map.append('2');
        tally.due("P43 the text is not undone", 1, map::run);
        tally.due("P16 its ticks", 12, map::ticks);
        map.restore();
        tally.due("P35 not undone", 7, map::errorPosition);
        tally.due("P36 not undone", 1, map::failedCommand);
    }
}
