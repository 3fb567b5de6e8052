import java.util.Random;

/** Runs of 512 calls each, drawn from fixed seeds, whose answers the plain model has to share. */
final class RandomRunTests {
    private static final int RUNS = 400;
    private static final int CALLS = 512;
    private static final int[] ODD = {-1, 0, 7, 8, 64, 999, 1000, 9999, 10000, Integer.MIN_VALUE, Integer.MAX_VALUE};
    private static final int[] LEVELS = {1, 50, 100, 300, 500, 700, 2000};
    private static final String SIGNS = ".:~#";
    private final Random random;
    private final MapSanatorium map = new MapSanatorium();
    private final PlainModel model = new PlainModel();
    private final int ticksAtOnce;
    private final String grounds;

    private RandomRunTests(int seed) {
        random = new Random(seed);
        ticksAtOnce = seed % 3 == 0 ? 20 : 3;
        grounds = seed % 4 == 0 ? "###.~:" : "..:~#";
    }

    static void run(Tally tally) {
        for (int seed = 0; seed < RUNS; seed++) {
            int run = seed;
            RandomRunTests test = new RandomRunTests(run);
            tally.due("random run " + run, "as the model answers", test.compare());
        }
    }

    /** Runs that last longer than promised, to see that nothing but the promised exceptions comes. */
    static void runLong(Tally tally) {
        for (int seed = 1000; seed < 1010; seed++) {
            RandomRunTests test = new RandomRunTests(seed);
            for (int call = 0; call < 20; call++) {
                tally.due("long random run " + seed, "as the model answers", test.compare());
            }
        }
    }

    private String compare() {
        for (int call = 0; call < CALLS; call++) {
            String difference = compareOne(call);
            if (difference != null) {
                return difference;
            }
        }
        return "as the model answers";
    }

    private String compareOne(int call) {
        int kind = random.nextInt(60);
        int[] n = new int[4];
        for (int index = 0; index < 4; index++) {
            n[index] = random.nextInt(30) == 0 ? ODD[random.nextInt(ODD.length)] : random.nextInt(8);
        }
        if (kind >= 50) {
            kind = random.nextInt(2) * 2;
        }
        if (kind == 32) {
            String difference = appendSome();
            if (difference != null) {
                return difference;
            }
        }
        int amount = random.nextInt(20) == 0 ? ODD[random.nextInt(ODD.length)] : 1 + random.nextInt(999);
        char sign = random.nextInt(30) == 0 ? (char) random.nextInt(300) : grounds.charAt(random.nextInt(grounds.length()));
        int level = random.nextInt(20) == 0 ? ODD[random.nextInt(ODD.length)] : LEVELS[random.nextInt(LEVELS.length)];
        int classes = random.nextInt(8);
        int ticks = random.nextInt(25) == 0 ? ODD[random.nextInt(ODD.length)] : 1 + random.nextInt(ticksAtOnce);
        int chosen = kind;
        Object want = answer(() -> ask(model, chosen, n, new int[] {amount, level, classes, ticks}, sign));
        Object got = answer(() -> ask(map, chosen, n, new int[] {amount, level, classes, ticks}, sign));
        if (want.equals(got)) {
            return null;
        }
        return "call " + call + " of kind " + kind + " answered " + got + ", the model " + want;
    }

    private interface Question {
        Object answer();
    }

    private static Object answer(Question question) {
        try {
            return question.answer();
        } catch (RuntimeException e) {
            return e.getClass().getSimpleName();
        }
    }

    private String appendSome() {
        String text = randomText();
        for (char character : text.toCharArray()) {
            Object want = answer(() -> model.append(character));
            Object got = answer(() -> map.append(character));
            if (!want.equals(got)) {
                return "append answered " + got + ", the model " + want;
            }
        }
        return null;
    }

    private String randomText() {
        StringBuilder text = new StringBuilder();
        int commands = 1 + random.nextInt(4);
        for (int command = 0; command < commands; command++) {
            text.append(command == 0 ? "" : ";").append(randomCommand());
        }
        if (random.nextInt(3) == 0) {
            text.setCharAt(random.nextInt(text.length()), (char) (32 + random.nextInt(95)));
        }
        if (random.nextInt(6) == 0) {
            text.setLength(random.nextInt(text.length()));
        }
        return text.toString();
    }

    private String randomCommand() {
        String cell = "" + random.nextInt(random.nextInt(9) == 0 ? 10 : 8) + random.nextInt(8);
        switch (random.nextInt(4)) {
            case 0:
                return "heat " + cell + "+" + random.nextInt(1050);
            case 1:
                return "ground " + cell + grounds.charAt(random.nextInt(grounds.length()));
            case 2:
                return "border " + random.nextInt(random.nextInt(9) == 0 ? 10 : 4) + "=" + random.nextInt(10000);
            default:
                return "pass " + (random.nextInt(9) == 0 ? random.nextInt(30) : 1 + random.nextInt(ticksAtOnce));
        }
    }

    /** The numbers are an amount, a level, a number of classes and one of ticks. */
    private static Object ask(MapSanatorium map, int kind, int[] n, int[] numbers, char sign) {
        switch (kind) {
            case 0: return map.heatUp(n[0], n[1], numbers[0]);
            case 1: return map.setGround(n[0], n[1], sign);
            case 2: return map.heatUp(n[0] % 3, n[1] % 3, numbers[0]);
            case 3: return map.groundAt(n[0], n[1]);
            case 4: return map.heatAt(n[0], n[1]);
            case 5: return map.embersAt(n[0], n[1]);
            case 6: return map.allHeat();
            case 7: return map.allHeatByAccounts();
            case 8: return map.cellAtRank(8 * n[0] + n[1]);
            case 9: return map.refusalReason();
            case 10: return map.refusalDetail();
            case 11: return map.setBorder(n[0] / 2, n[1] % 2 * numbers[0]);
            case 12: return map.border(n[0] / 2);
            case 13: return map.lostBy(n[0] / 2);
            case 14: case 15: return map.pass(numbers[3]);
            case 16: return map.ticks();
            case 17: return map.relapses();
            case 18: return map.ticksUntilBelow(numbers[1]);
            case 19: return map.cellBits(numbers[1]);
            case 20: return map.regions(numbers[1]);
            case 21: return map.regionsByUnions(numbers[1]);
            case 22: return map.holes(numbers[1]);
            case 23: return map.holesBySquares(numbers[1]);
            case 24: return map.contourLength(numbers[1]);
            case 25: return map.contourLengthByPairs(numbers[1]);
            case 26: return map.regionSize(n[0], n[1], numbers[1]);
            case 27: return map.coolestPeak(n[0], n[1], n[2], n[3]);
            case 28: return map.coolestPeakByTrying(n[0], n[1], n[2], n[3]);
            case 29: return map.legendSpread(numbers[2]);
            case 30: return map.legendSpreadByTable(numbers[2]);
            case 31: return map.classBegin(numbers[2], n[0]);
            case 32: case 33: return map.run();
            case 34: return map.classOf(n[0], n[1], numbers[2]);
            case 35: return map.errorPosition();
            case 36: return map.failedCommand();
            case 37: return map.describeRow(n[0]);
            case 38: return map.describeLegend(numbers[2]);
            case 39: case 40: return map.lineAt(n[0] + n[1]);
            case 41: return map.meanHeat();
            case 42: return map.levelShare(numbers[1]);
            case 43: return map.isConsistent();
            case 44: case 45: return map.undo();
            case 46: return n[0] > 4 ? map.save() : map.undo();
            case 47: return n[0] > 4 ? map.restore() : map.undo();
            case 48: return map.append((char) (n[0] * 20));
            default: return map.pass(numbers[3]);
        }
    }

    private static Object ask(PlainModel map, int kind, int[] n, int[] numbers, char sign) {
        switch (kind) {
            case 0: return map.heatUp(n[0], n[1], numbers[0]);
            case 1: return map.setGround(n[0], n[1], sign);
            case 2: return map.heatUp(n[0] % 3, n[1] % 3, numbers[0]);
            case 3: return map.groundAt(n[0], n[1]);
            case 4: return map.heatAt(n[0], n[1]);
            case 5: return map.embersAt(n[0], n[1]);
            case 6: case 7: return map.allHeat();
            case 8: return map.cellAtRank(8 * n[0] + n[1]);
            case 9: return map.refusalReason();
            case 10: return map.refusalDetail();
            case 11: return map.setBorder(n[0] / 2, n[1] % 2 * numbers[0]);
            case 12: return map.border(n[0] / 2);
            case 13: return map.lostBy(n[0] / 2);
            case 14: case 15: return map.pass(numbers[3]);
            case 16: return map.ticks();
            case 17: return map.relapses();
            case 18: return map.ticksUntilBelow(numbers[1]);
            case 19: return map.cellBits(numbers[1]);
            case 20: case 21: return map.regions(numbers[1]);
            case 22: case 23: return map.holes(numbers[1]);
            case 24: case 25: return map.contourLength(numbers[1]);
            case 26: return map.regionSize(n[0], n[1], numbers[1]);
            case 27: case 28: return map.coolestPeak(n[0], n[1], n[2], n[3]);
            case 29: case 30: return map.legendSpread(numbers[2]);
            case 31: return map.classBegin(numbers[2], n[0]);
            case 32: case 33: return map.run();
            case 34: return map.classOf(n[0], n[1], numbers[2]);
            case 35: return map.errorPosition();
            case 36: return map.failedCommand();
            case 37: return map.describeRow(n[0]);
            case 38: return map.describeLegend(numbers[2]);
            case 39: case 40: return map.lineAt(n[0] + n[1]);
            case 41: return map.meanHeat();
            case 42: return map.levelShare(numbers[1]);
            case 43: return true;
            case 44: case 45: return map.undo();
            case 46: return n[0] > 4 ? map.save() : map.undo();
            case 47: return n[0] > 4 ? map.restore() : map.undo();
            case 48: return map.append((char) (n[0] * 20));
            default: return map.pass(numbers[3]);
        }
    }
}
