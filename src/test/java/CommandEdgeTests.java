import java.util.NoSuchElementException;

/** The boundary cases of promises 33 to 36. */
final class CommandEdgeTests {
    private static final Class<IllegalArgumentException> NO_TEXT = IllegalArgumentException.class;
    private static final Class<IllegalStateException> FAILS = IllegalStateException.class;
    private static final Class<NoSuchElementException> NONE = NoSuchElementException.class;
    private static final String DIGITS = "0123456789";
    private final Tally tally;

    private CommandEdgeTests(Tally tally) {
        this.tally = tally;
    }

    static void run(Tally tally) {
        CommandEdgeTests tests = new CommandEdgeTests(tally);
        tests.promise33Characters();
        tests.promise33Sixty();
        tests.promise33FirstException();
        tests.promise34HeatCommands();
        tests.promise34GroundCommands();
        tests.promise34BorderCommands();
        tests.promise34PassCommands();
        tests.promise34EmptyText();
        tests.promise34SixtyCharacters();
        tests.promise34MostCommands();
        tests.promise34WhatBadTextsLeave();
        tests.promise34WhatFailuresLeave();
        tests.promise34WhatRefusalsLeave();
        tests.promise34FirstFailure();
        tests.promise34ClearsTheText();
        tests.promise34IsOneChange();
        tests.promise35EachCharacter();
        tests.promise35EndsOfTexts();
        tests.promises35And36None();
        tests.promises35And36LastOne();
    }

    private void promise33Characters() {
        new Edge(tally, "P33 character", (map, character) -> map.append((char) character))
                .takes(32, 10).takes(126, 10).takes(';', 10)
                .throwsFor(NO_TEXT, 31, 127, 0, 9, 10, 128, 255, 256, 256 + 32, 256 + 126, 0xFFFF);
    }

    private void promise33Sixty() {
        tally.due("P33 the sixtieth", 60, () -> filled(59).append('x'));
        Whole.dueThrows(tally, "P33 the sixty-first", FAILS, () -> filled(60), map -> map.append('x'));
    }

    /** Makes a map whose command text has that many characters. */
    private static MapSanatorium filled(int length) {
        MapSanatorium map = Maps.usedWithoutText();
        Maps.write(map, "x".repeat(length));
        return map;
    }

    private void promise33FirstException() {
        Whole.dueThrows(tally, "P33 no character before no room", NO_TEXT, () -> filled(60),
                map -> map.append((char) 127));
        Whole.dueThrows(tally, "P33 too small a character before no room", NO_TEXT, () -> filled(60),
                map -> map.append((char) 31));
    }

    private void dueRun(String text) {
        tally.due("P34 " + text, 1, () -> written(text).run());
    }

    private void dueFail(String text) {
        tally.dueThrows("P34 " + text, FAILS, () -> written(text).run());
        tally.due("P36 " + text, 0, () -> ran(text).failedCommand());
        dueOnly("P34 " + text, text, Whole.FAILED_COMMAND);
    }

    /** The run may change nothing but that, and the command text is empty behind it. */
    private void dueOnly(String what, String text, String... besides) {
        Whole.dueSame(tally, what + " changes nothing else", Maps::usedWithoutText,
                () -> ran(text), besides);
        tally.due(what + " clears the text", 1, () -> ran(text).append('x'));
    }

    private static MapSanatorium written(String text) {
        MapSanatorium map = Maps.usedWithoutText();
        Maps.write(map, text);
        return map;
    }

    private static MapSanatorium ran(String text) {
        return Whole.after(() -> written(text), MapSanatorium::run);
    }

    private void promise34HeatCommands() {
        dueRun("heat 77+5");
        dueRun("heat 00+1");
        dueRun("heat 70+999");
        dueRun("heat 07+0001");
        dueRun("heat 07+0999");
        dueFail("heat 80+5");
        dueFail("heat 08+5");
        dueFail("heat 99+5");
        dueFail("heat 00+0");
        dueFail("heat 00+0000");
        dueFail("heat 00+1000");
        dueFail("heat 00+9999");
        MapSanatorium map = written("heat 36+12");
        map.run();
        tally.due("P34 column and row", 12, () -> map.heatAt(3, 6));
    }

    private void promise34GroundCommands() {
        dueRun("ground 77#");
        dueRun("ground 00.");
        dueRun("ground 70:");
        dueRun("ground 07~");
        dueFail("ground 80.");
        dueFail("ground 08.");
        dueFail("ground 99#");
        MapSanatorium map = written("ground 36#");
        map.run();
        tally.due("P34 column and row of a ground", '#', () -> map.groundAt(3, 6));
    }

    private void promise34BorderCommands() {
        dueRun("border 0=0");
        dueRun("border 3=9999");
        dueRun("border 3=0000");
        dueFail("border 4=0");
        dueFail("border 9=9999");
        MapSanatorium map = written("border 3=1234");
        map.run();
        tally.due("P34 four digits", 1234, () -> map.border(3));
    }

    private void promise34PassCommands() {
        dueRun("pass 1");
        dueRun("pass 20");
        dueRun("pass 0001");
        dueFail("pass 0");
        dueFail("pass 21");
        dueFail("pass 0000");
        dueFail("pass 9999");
        MapSanatorium map = written("pass 0020");
        map.run();
        tally.due("P34 two digits behind two zeros", 22, map::ticks);
    }

    private void promise34EmptyText() {
        tally.dueThrows("P34 an empty text", NO_TEXT, () -> Maps.usedWithoutText().run());
        tally.due("P35 an empty text", 0, () -> ran("").errorPosition());
        dueOnly("P34 an empty text", "", Whole.ERROR_POSITION);
    }

    private void promise34SixtyCharacters() {
        String sixty = "heat 30+999;heat 30+999;heat 30+999;heat 30+999;heat 40+0999";
        tally.due("P34 sixty characters", 5, () -> written(sixty).run());
        MapSanatorium map = ran(sixty);
        tally.due("P34 the first commands of sixty characters", 4 * 999, () -> map.heatAt(3, 0));
        tally.due("P34 the last of sixty characters", 999, () -> map.heatAt(4, 0));
        String bad = sixty.substring(0, 59) + "x";
        tally.dueThrows("P34 the sixtieth is wrong", NO_TEXT, () -> written(bad).run());
        tally.due("P35 the sixtieth is wrong", 59, () -> ran(bad).errorPosition());
    }

    /** The shortest command has six characters, so that eight of them and seven signs between them fit. */
    private void promise34MostCommands() {
        String eight = "pass 1" + ";pass 1".repeat(7);
        tally.due("P34 eight commands", 8, () -> written(eight).run());
        tally.due("P16 eight ticks", 10, () -> ran(eight).ticks());
        String last = "pass 1;".repeat(7) + "pass 0";
        tally.due("P36 the eighth", 7, () -> ran(last).failedCommand());
        dueOnly("P34 the eighth fails", last, Whole.FAILED_COMMAND);
    }

    private void promise34WhatBadTextsLeave() {
        String[] texts = {"heat 77+5;x", "pass 20;pass", "ground 77#;", " ", ";", "heat 20+1;heat"};
        for (String text : texts) {
            tally.dueThrows("P34 " + text, NO_TEXT, () -> written(text).run());
            tally.due("P36 is left by " + text, 1, () -> ran(text).failedCommand());
            dueOnly("P34 " + text, text, Whole.ERROR_POSITION);
        }
    }

    private void promise34WhatFailuresLeave() {
        String[] texts = {"pass 20;border 1=5;pass 0", "heat 77+5;ground 66~;heat 88+5",
                "ground 77#;heat 00+9;border 9=0"};
        for (String text : texts) {
            tally.dueThrows("P34 " + text, FAILS, () -> written(text).run());
            MapSanatorium map = ran(text);
            tally.due("P36 " + text, 2, map::failedCommand);
            tally.due("P35 is left by " + text, 7, map::errorPosition);
            tally.due("P10 is left by " + text, 2, map::refusalReason);
            dueOnly("P34 " + text, text, Whole.FAILED_COMMAND);
        }
    }

    /** What a refusal tells is what it finds behind the commands before it. */
    private void promise34WhatRefusalsLeave() {
        dueRefusal("heat 20+1", 0, 1, 2);
        dueRefusal("ground 77#;heat 77+999", 1, 1, 63);
        dueRefusal("ground 00#", 0, 2, 100);
        dueRefusal("heat 00+5;ground 00#;heat 20+1", 1, 2, 105);
        dueRefusal("heat 33+80;pass 1;ground 33#", 2, 2, 40);
        MapSanatorium hot = Maps.usedWithoutText();
        Maps.heatMuch(hot, 4, 4, 9000);
        Maps.write(hot, "heat 44+999;heat 44+2");
        tally.dueThrows("P34 too hot", FAILS, hot::run);
        tally.due("P36 too hot", 1, hot::failedCommand);
        tally.due("P10 too hot", 3, hot::refusalReason);
        tally.due("P11 too hot", 2, hot::refusalDetail);
        tally.due("P34 not hotter than before", 9000, () -> hot.heatAt(4, 4));
    }

    private void dueRefusal(String text, int command, int reason, int detail) {
        tally.dueThrows("P34 " + text, FAILS, () -> written(text).run());
        MapSanatorium map = ran(text);
        tally.due("P36 " + text, command, map::failedCommand);
        tally.due("P10 " + text, reason, map::refusalReason);
        tally.due("P11 " + text, detail, map::refusalDetail);
        dueOnly("P34 " + text, text, Whole.FAILED_COMMAND, Whole.REFUSAL);
    }

    /** Commands behind the one that fails are not tried: the rock in (2, 0) would be another refusal. */
    private void promise34FirstFailure() {
        MapSanatorium map = ran("pass 0;heat 20+1;pass 21");
        tally.due("P36 the first that fails", 0, map::failedCommand);
        tally.due("P10 the others are not tried", 2, map::refusalReason);
        MapSanatorium text = ran("pass 0;heat 20+1;x");
        tally.due("P35 a bad text comes before a failure", 17, text::errorPosition);
        tally.due("P36 and tries no command", 1, text::failedCommand);
    }

    private void promise34ClearsTheText() {
        for (String text : new String[] {"pass 1", "pass 0", "pass", "heat 20+1", ""}) {
            MapSanatorium map = ran(text);
            tally.due("P33 empty behind: " + text, 1, () -> map.append('p'));
            Maps.write(map, "ass 20");
            tally.due("P34 runs behind: " + text, 1, map::run);
            tally.dueThrows("P34 not twice behind: " + text, NO_TEXT, map::run);
        }
    }

    private void promise34IsOneChange() {
        MapSanatorium map = new MapSanatorium();
        map.heatUp(4, 4, 1);
        Maps.write(map, "heat 44+1;heat 44+1;heat 44+1");
        tally.due("P34 three commands", 3, map::run);
        tally.due("P43 are one change", 1, map::undo);
        tally.due("P43 all three undone", 1, () -> map.heatAt(4, 4));
        Maps.write(map, "ground 00.");
        tally.due("P34 nothing differs", 1, map::run);
        tally.due("P43 still a change", 1, map::undo);
    }

    /** For each place in these texts all characters that can stand there, and for all others the position. */
    private void promise35EachCharacter() {
        dueSets("", "hgbp");
        dueSets("heat 12+3456", "h", "e", "a", "t", " ", DIGITS, DIGITS, "+", DIGITS, DIGITS + ";", DIGITS + ";",
                DIGITS + ";", ";");
        dueSets("ground 12~", "g", "r", "o", "u", "n", "d", " ", DIGITS, DIGITS, ".:~#", ";");
        dueSets("border 1=2345", "b", "o", "r", "d", "e", "r", " ", DIGITS, "=", DIGITS, DIGITS + ";",
                DIGITS + ";", DIGITS + ";", ";");
        dueSets("pass 1234", "p", "a", "s", "s", " ", DIGITS, DIGITS + ";", DIGITS + ";", DIGITS + ";", ";");
    }

    /** The first set tells what continues the beginning of a text, the others what comes behind it. */
    private void dueSets(String text, String... sets) {
        for (int place = 0; place < sets.length; place++) {
            String set = place == 0 ? "hgbp" : sets[place];
            for (String before : new String[] {"", "pass 0;", "ground 99#;"}) {
                dueSet(before + text.substring(0, place), set);
            }
        }
    }

    private void dueSet(String before, String set) {
        for (char character = 32; character <= 126; character++) {
            MapSanatorium map = new MapSanatorium();
            Maps.write(map, before + character);
            String answer = Whole.answerOf(map::run);
            int length = before.length();
            String what = "P35 " + before + character;
            if (set.indexOf(character) < 0) {
                tally.due(what, "IllegalArgumentException ", answer);
                tally.due(what, length, map::errorPosition);
            } else if (answer.startsWith("IllegalArgument")) {
                tally.due(what, length + 1, map::errorPosition);
            }
        }
    }

    private void promise35EndsOfTexts() {
        for (String whole : new String[] {"heat 12+", "ground 12", "border 1=", "pass "}) {
            for (int length = 0; length <= whole.length(); length++) {
                dueEnd(whole.substring(0, length));
                dueEnd("pass 1;" + whole.substring(0, length));
            }
        }
    }

    /** A text that only lacks something has its error at its end, wherever what follows goes wrong. */
    private void dueEnd(String text) {
        MapSanatorium map = ran(text);
        tally.due("P35 the end of " + text, text.length(), map::errorPosition);
        MapSanatorium wrong = ran(text + "!pass 1;x");
        tally.due("P35 only the first error of " + text, text.length(), wrong::errorPosition);
    }

    private void promises35And36None() {
        MapSanatorium map = new MapSanatorium();
        Maps.write(map, "pass 0");
        Whole.answerOf(map::run);
        tally.dueThrows("P35 a failure sets none", NONE, map::errorPosition);
        tally.due("P36 but the failed command", 0, map::failedCommand);
        MapSanatorium text = new MapSanatorium();
        Whole.answerOf(() -> text.append((char) 31));
        tally.dueThrows("P35 a wrong character sets none", NONE, text::errorPosition);
        Whole.answerOf(text::run);
        tally.dueThrows("P36 a bad text sets none", NONE, text::failedCommand);
        tally.due("P35 but the error position", 0, text::errorPosition);
        Maps.write(text, "pass 1");
        text.run();
        tally.due("P35 a success leaves it", 0, text::errorPosition);
        tally.dueThrows("P36 a success sets none", NONE, text::failedCommand);
    }

    private void promises35And36LastOne() {
        Whole.dueQuestion(tally, "P35 reading keeps it", 7, MapSanatorium::errorPosition);
        Whole.dueQuestion(tally, "P36 reading keeps it", 1, MapSanatorium::failedCommand);
        MapSanatorium map = Maps.usedWithoutText();
        Maps.write(map, "pas!");
        Whole.answerOf(map::run);
        tally.due("P35 the latest", 3, map::errorPosition);
        Maps.write(map, "pass 1;pass 1;pass 0");
        Whole.answerOf(map::run);
        tally.due("P36 the latest", 2, map::failedCommand);
        Maps.write(map, "pass 0");
        Whole.answerOf(map::run);
        tally.due("P36 an earlier command, but later", 0, map::failedCommand);
        map.undo();
        map.restore();
        tally.due("P35 neither undone nor restored", 3, map::errorPosition);
        tally.due("P36 neither undone nor restored", 0, map::failedCommand);
    }
}
