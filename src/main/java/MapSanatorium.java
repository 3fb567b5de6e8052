import java.util.NoSuchElementException;

/**
 * A sanatorium for an overheated map: heat that flows between cells and leaves by the borders,
 * embers that relapse, regions, holes and contours of levels, the coolest ways, and legends with
 * classes of heat. ../shared/DOC.md says what each call promises.
 */
public final class MapSanatorium {
    private static final int WIDTH = 8;
    private static final int CELLS = 64;
    private static final int SIDES = 4;
    private static final int TOP = 0;
    private static final int RIGHT = 1;
    private static final int BOTTOM = 2;
    private static final int LEFT = 3;
    private static final int OUTSIDE = -1;

    private static final char PLAIN = '.';
    private static final char SAND = ':';
    private static final char WATER = '~';
    private static final char ROCK = '#';

    private static final int MOST_HEAT = 9999;
    private static final int MOST_ADDED = 999;
    private static final int MOST_TICKS = 20;
    private static final int MOST_CLASSES = 6;
    private static final int KEPT_CHANGES = 8;

    private static final int EMBER_HEAT = 700;
    private static final int EMBER_UNITS = 100;
    private static final int COOL_HEAT = 300;
    private static final int HOT_HEAT = 500;

    private static final int NO_REFUSAL = 0;
    private static final int ROCK_REFUSAL = 1;
    private static final int WARM_REFUSAL = 2;
    private static final int EXCESS_REFUSAL = 3;
    private static final int NOT_SET = -1;
    private static final int NO_WAY = -1;

    private static final int TEXT_LIMIT = 60;
    private static final int SHORTEST_COMMAND = 6;
    private static final int HEAT = 0;
    private static final int GROUND = 1;
    private static final int BORDER = 2;
    private static final int PASS = 3;

    private final HeatMap map = new HeatMap();
    private final HeatMap beforeRun = new HeatMap();
    private final HeatMap snapshot = new HeatMap();
    private final HeatMap forecast = new HeatMap();
    private final History history = new History();
    private final Ticker ticker = new Ticker();
    private final Unions unions = new Unions();
    private final CellHeap heap = new CellHeap();
    private final Legend legend = new Legend();
    private final CommandReader reader = new CommandReader();
    private final StringBuilder line = new StringBuilder();
    private boolean hasSnapshot = false;
    private int refusalReason = NO_REFUSAL;
    private int refusalDetail = 0;
    private int errorPosition = NOT_SET;
    private int failedCommand = NOT_SET;

    public MapSanatorium() {
    }

    // ---- ground and heat

    public char setGround(int x, int y, char ground)
            throws IndexOutOfBoundsException, IllegalArgumentException, UnsupportedOperationException {
        requireCell(x, y);
        if (!isGround(ground)) {
            throw new IllegalArgumentException("no such ground");
        }
        int cell = cellOf(x, y);
        if (isGroundRefused(cell, ground)) {
            throw new UnsupportedOperationException("the ground is refused");
        }
        char before = map.ground[cell];
        history.keep(map);
        map.ground[cell] = ground;
        return before;
    }

    public char groundAt(int x, int y) throws IndexOutOfBoundsException {
        requireCell(x, y);
        return map.ground[cellOf(x, y)];
    }

    public int heatUp(int x, int y, int amount)
            throws IndexOutOfBoundsException, IllegalArgumentException, UnsupportedOperationException {
        requireCell(x, y);
        if (!isAmount(amount)) {
            throw new IllegalArgumentException("the amount is out of range");
        }
        int cell = cellOf(x, y);
        if (isHeatRefused(cell, amount)) {
            throw new UnsupportedOperationException("the heat is refused");
        }
        history.keep(map);
        map.addHeat(cell, amount);
        return map.heat[cell];
    }

    public int heatAt(int x, int y) throws IndexOutOfBoundsException {
        requireCell(x, y);
        return map.heat[cellOf(x, y)];
    }

    public int embersAt(int x, int y) throws IndexOutOfBoundsException {
        requireCell(x, y);
        return map.embers[cellOf(x, y)];
    }

    public int allHeat() {
        return map.heatOfCells() + map.embersOfCells();
    }

    public int allHeatByAccounts() {
        return map.addedHeat - map.lostHeat();
    }

    public int cellAtRank(int rank) throws NoSuchElementException {
        for (int cell = 0; cell < CELLS; cell++) {
            if (map.rankOf(cell) == rank) {
                return cell;
            }
        }
        throw new NoSuchElementException("no such rank");
    }

    public int refusalReason() throws NoSuchElementException {
        requireRefusal();
        return refusalReason;
    }

    public int refusalDetail() throws NoSuchElementException {
        requireRefusal();
        return refusalDetail;
    }

    // ---- borders and ticks

    public int setBorder(int side, int temperature)
            throws IndexOutOfBoundsException, IllegalArgumentException {
        requireSide(side);
        if (!isTemperature(temperature)) {
            throw new IllegalArgumentException("the temperature is out of range");
        }
        int before = map.temperature[side];
        history.keep(map);
        map.temperature[side] = temperature;
        return before;
    }

    public int border(int side) throws IndexOutOfBoundsException {
        requireSide(side);
        return map.temperature[side];
    }

    public int lostBy(int side) throws IndexOutOfBoundsException {
        requireSide(side);
        return map.lost[side];
    }

    public int pass(int ticks) throws IllegalArgumentException {
        if (!isTickNumber(ticks)) {
            throw new IllegalArgumentException("the number of ticks is out of range");
        }
        history.keep(map);
        return ticker.letTicksPass(map, ticks);
    }

    public int ticks() {
        return map.ticks;
    }

    public int relapses() {
        return map.relapses;
    }

    public int ticksUntilBelow(int level) throws IllegalArgumentException, NoSuchElementException {
        requireLevel(level);
        forecast.copyFrom(map);
        for (int passed = 0; passed <= MOST_TICKS; passed++) {
            if (forecast.cellsOfLevel(level) == 0L) {
                return passed;
            }
            ticker.letTicksPass(forecast, 1);
        }
        throw new NoSuchElementException("it would take too many ticks");
    }

    // ---- regions and contours

    public long cellBits(int level) throws IllegalArgumentException {
        requireLevel(level);
        return map.cellsOfLevel(level);
    }

    public int regions(int level) throws IllegalArgumentException {
        requireLevel(level);
        return Shapes.countRegions(map.cellsOfLevel(level));
    }

    public int regionsByUnions(int level) throws IllegalArgumentException {
        requireLevel(level);
        return unions.countRegions(map.cellsOfLevel(level));
    }

    public int holes(int level) throws IllegalArgumentException {
        requireLevel(level);
        return Shapes.countHoles(map.cellsOfLevel(level));
    }

    public int holesBySquares(int level) throws IllegalArgumentException {
        requireLevel(level);
        return countHolesBySquares(map.cellsOfLevel(level));
    }

    public int contourLength(int level) throws IllegalArgumentException {
        requireLevel(level);
        return Shapes.measureContour(map.cellsOfLevel(level));
    }

    public int contourLengthByPairs(int level) throws IllegalArgumentException {
        requireLevel(level);
        return Shapes.measureContourByPairs(map.cellsOfLevel(level));
    }

    public int regionSize(int x, int y, int level)
            throws IndexOutOfBoundsException, IllegalArgumentException {
        requireCell(x, y);
        requireLevel(level);
        return Long.bitCount(Shapes.fill(Shapes.bitOf(cellOf(x, y)), map.cellsOfLevel(level)));
    }

    // ---- ways

    public int coolestPeak(int fromX, int fromY, int toX, int toY)
            throws IndexOutOfBoundsException, NoSuchElementException {
        requireCell(fromX, fromY);
        requireCell(toX, toY);
        int peak = heap.findPeak(map, cellOf(fromX, fromY), cellOf(toX, toY));
        if (peak == NO_WAY) {
            throw new NoSuchElementException("there is no way");
        }
        return peak;
    }

    public int coolestPeakByTrying(int fromX, int fromY, int toX, int toY)
            throws IndexOutOfBoundsException, NoSuchElementException {
        requireCell(fromX, fromY);
        requireCell(toX, toY);
        int peak = findPeakByTrying(cellOf(fromX, fromY), cellOf(toX, toY));
        if (peak == NO_WAY) {
            throw new NoSuchElementException("there is no way");
        }
        return peak;
    }

    // ---- legends

    public int legendSpread(int classes) throws IllegalArgumentException, IllegalStateException {
        requireLegend(classes);
        legend.draw(map, classes);
        return legend.spread();
    }

    public int legendSpreadByTable(int classes)
            throws IllegalArgumentException, IllegalStateException {
        requireLegend(classes);
        return legend.findSpreadByTable(map, classes);
    }

    public int classBegin(int classes, int place)
            throws IllegalArgumentException, IllegalStateException, NoSuchElementException {
        requireLegend(classes);
        if (place < 0 || place >= classes) {
            throw new NoSuchElementException("no such place");
        }
        legend.draw(map, classes);
        return legend.smallestHeat(place);
    }

    public int classOf(int x, int y, int classes)
            throws IndexOutOfBoundsException, IllegalArgumentException, IllegalStateException,
            UnsupportedOperationException {
        requireCell(x, y);
        requireLegend(classes);
        if (map.isRock(cellOf(x, y))) {
            throw new UnsupportedOperationException("rock has no class");
        }
        legend.draw(map, classes);
        return legend.classOfCell(cellOf(x, y));
    }

    // ---- commands

    public int append(char character) throws IllegalArgumentException, IllegalStateException {
        if (character < 32 || character > 126) {
            throw new IllegalArgumentException("no such character in a command text");
        }
        if (reader.isFull()) {
            throw new IllegalStateException("the command text is full");
        }
        return reader.addCharacter(character);
    }

    public int run() throws IllegalArgumentException, IllegalStateException {
        boolean isCommandText = reader.readText();
        reader.clear();
        if (!isCommandText) {
            errorPosition = reader.position();
            throw new IllegalArgumentException("not a command text");
        }
        beforeRun.copyFrom(map);
        for (int index = 0; index < reader.commandCount(); index++) {
            if (!carryOut(reader.commandAt(index))) {
                map.copyFrom(beforeRun);
                failedCommand = index;
                throw new IllegalStateException("a command fails");
            }
        }
        history.keep(beforeRun);
        return reader.commandCount();
    }

    public int errorPosition() throws NoSuchElementException {
        if (errorPosition == NOT_SET) {
            throw new NoSuchElementException("no error position was set");
        }
        return errorPosition;
    }

    public int failedCommand() throws NoSuchElementException {
        if (failedCommand == NOT_SET) {
            throw new NoSuchElementException("no command has failed");
        }
        return failedCommand;
    }

    // ---- line, statistics, undo, snapshot

    public int describeRow(int y) throws IndexOutOfBoundsException {
        requireCell(0, y);
        line.setLength(0);
        for (int x = 0; x < WIDTH; x++) {
            line.append(map.signOf(cellOf(x, y)));
        }
        return line.length();
    }

    public int describeLegend(int classes) throws IllegalArgumentException, IllegalStateException {
        requireLegend(classes);
        legend.draw(map, classes);
        line.setLength(0);
        for (int place = 0; place < classes; place++) {
            if (place > 0) {
                line.append(',');
            }
            line.append(legend.smallestHeat(place));
            line.append('-');
            line.append(legend.greatestHeat(place));
        }
        return line.length();
    }

    public char lineAt(int index) throws IndexOutOfBoundsException {
        if (index < 0 || index >= line.length()) {
            throw new IndexOutOfBoundsException("no such index in the line");
        }
        return line.charAt(index);
    }

    public double meanHeat() throws ArithmeticException {
        int open = map.countOpenCells();
        if (open == 0) {
            throw new ArithmeticException("all cells are rock");
        }
        return (double) map.heatOfCells() / (double) open;
    }

    public float levelShare(int level) throws IllegalArgumentException {
        requireLevel(level);
        return (float) Long.bitCount(map.cellsOfLevel(level)) / (float) CELLS;
    }

    public boolean isConsistent() {
        return allHeat() == allHeatByAccounts()
                && shapesAgree(1)
                && shapesAgree(100)
                && shapesAgree(300)
                && shapesAgree(500)
                && shapesAgree(700)
                && waysAgree()
                && spreadsAgree();
    }

    public int undo() throws IllegalStateException {
        if (history.size() == 0) {
            throw new IllegalStateException("there is no change to undo");
        }
        history.takeBack(map);
        return history.size();
    }

    public int save() {
        snapshot.copyFrom(map);
        hasSnapshot = true;
        return map.ticks;
    }

    public int restore() throws IllegalStateException {
        if (!hasSnapshot) {
            throw new IllegalStateException("there is no snapshot");
        }
        map.copyFrom(snapshot);
        history.forget();
        return map.ticks;
    }

    // ---- what calls demand

    private static boolean isCell(int x, int y) {
        return x >= 0 && x < WIDTH && y >= 0 && y < WIDTH;
    }

    private static int cellOf(int x, int y) {
        return WIDTH * y + x;
    }

    private static boolean isSide(int side) {
        return side >= 0 && side < SIDES;
    }

    private static boolean isGround(int ground) {
        return ground == PLAIN || ground == SAND || ground == WATER || ground == ROCK;
    }

    private static boolean isAmount(int amount) {
        return amount >= 1 && amount <= MOST_ADDED;
    }

    private static boolean isTemperature(int temperature) {
        return temperature >= 0 && temperature <= MOST_HEAT;
    }

    private static boolean isTickNumber(int ticks) {
        return ticks >= 1 && ticks <= MOST_TICKS;
    }

    private static void requireCell(int x, int y) {
        if (!isCell(x, y)) {
            throw new IndexOutOfBoundsException("no such cell");
        }
    }

    private static void requireSide(int side) {
        if (!isSide(side)) {
            throw new IndexOutOfBoundsException("no such side");
        }
    }

    private static void requireLevel(int level) {
        if (level < 1 || level > MOST_HEAT) {
            throw new IllegalArgumentException("the level is out of range");
        }
    }

    private void requireLegend(int classes) {
        if (classes < 1 || classes > MOST_CLASSES) {
            throw new IllegalArgumentException("the number of classes is out of range");
        }
        if (map.countOpenCells() < classes) {
            throw new IllegalStateException("too few cells are not rock");
        }
    }

    private void requireRefusal() {
        if (refusalReason == NO_REFUSAL) {
            throw new NoSuchElementException("nothing was refused");
        }
    }

    // ---- refusals: asking for one keeps it, since every refused call has to keep its reason

    private boolean isGroundRefused(int cell, int ground) {
        int warmth = map.heat[cell] + map.embers[cell];
        if (ground != ROCK || warmth == 0) {
            return false;
        }
        keepRefusal(WARM_REFUSAL, warmth);
        return true;
    }

    private boolean isHeatRefused(int cell, int amount) {
        if (map.isRock(cell)) {
            keepRefusal(ROCK_REFUSAL, cell);
            return true;
        }
        int excess = map.heat[cell] + amount - MOST_HEAT;
        if (excess <= 0) {
            return false;
        }
        keepRefusal(EXCESS_REFUSAL, excess);
        return true;
    }

    private void keepRefusal(int reason, int detail) {
        refusalReason = reason;
        refusalDetail = detail;
    }

    // ---- carrying out commands: they answer whether they succeed, so that run() can take all back

    private boolean carryOut(Command command) {
        switch (command.kind) {
            case HEAT:
                return carryOutHeat(command.first, command.second, command.third);
            case GROUND:
                return carryOutGround(command.first, command.second, command.third);
            case BORDER:
                return carryOutBorder(command.first, command.second);
            case PASS:
                return carryOutPass(command.first);
            default:
                return false;
        }
    }

    private boolean carryOutHeat(int x, int y, int amount) {
        if (!isCell(x, y) || !isAmount(amount) || isHeatRefused(cellOf(x, y), amount)) {
            return false;
        }
        map.addHeat(cellOf(x, y), amount);
        return true;
    }

    private boolean carryOutGround(int x, int y, int ground) {
        if (!isCell(x, y) || !isGround(ground) || isGroundRefused(cellOf(x, y), ground)) {
            return false;
        }
        map.ground[cellOf(x, y)] = (char) ground;
        return true;
    }

    private boolean carryOutBorder(int side, int temperature) {
        if (!isSide(side) || !isTemperature(temperature)) {
            return false;
        }
        map.temperature[side] = temperature;
        return true;
    }

    private boolean carryOutPass(int ticks) {
        if (!isTickNumber(ticks)) {
            return false;
        }
        ticker.letTicksPass(map, ticks);
        return true;
    }

    // ---- second ways of finding the same numbers

    /** Regions less holes is a quarter of what the squares count, so the holes are what is left. */
    private int countHolesBySquares(long cells) {
        return unions.countRegions(cells) - Shapes.countSquares(cells) / 4;
    }

    /** A heat that does not suffice rules out all cooler ones, and one that does all hotter ones. */
    private int findPeakByTrying(int from, int to) {
        int tooCool = NO_WAY;
        int enough = NO_WAY;
        for (int cell = 0; cell < CELLS; cell++) {
            int heat = map.heat[cell];
            if (heat > tooCool && (enough == NO_WAY || heat < enough)) {
                if (isReached(from, to, heat)) {
                    enough = heat;
                } else {
                    tooCool = heat;
                }
            }
        }
        return enough;
    }

    private boolean isReached(int from, int to, int heat) {
        long filled = Shapes.fill(Shapes.bitOf(from), map.openCellsUpTo(heat));
        return Shapes.isIn(filled, to);
    }

    private boolean shapesAgree(int level) {
        long cells = map.cellsOfLevel(level);
        return Shapes.countRegions(cells) == unions.countRegions(cells)
                && Shapes.countHoles(cells) == countHolesBySquares(cells)
                && Shapes.measureContour(cells) == Shapes.measureContourByPairs(cells);
    }

    private boolean waysAgree() {
        for (int cell = CELLS - WIDTH; cell < CELLS; cell++) {
            if (heap.findPeak(map, 0, cell) != findPeakByTrying(0, cell)) {
                return false;
            }
        }
        return true;
    }

    private boolean spreadsAgree() {
        return map.countOpenCells() < 4 || (spreadsAgreeFor(2) && spreadsAgreeFor(4));
    }

    private boolean spreadsAgreeFor(int classes) {
        legend.draw(map, classes);
        return legend.spread() == legend.findSpreadByTable(map, classes);
    }

    /** Returns the neighbour of the cell behind that side of it, or OUTSIDE. */
    private static int neighbourOf(int cell, int side) {
        int x = cell % WIDTH;
        int y = cell / WIDTH;
        switch (side) {
            case TOP:
                return y > 0 ? cell - WIDTH : OUTSIDE;
            case RIGHT:
                return x < WIDTH - 1 ? cell + 1 : OUTSIDE;
            case BOTTOM:
                return y < WIDTH - 1 ? cell + WIDTH : OUTSIDE;
            case LEFT:
                return x > 0 ? cell - 1 : OUTSIDE;
            default:
                return OUTSIDE;
        }
    }

    /** Everything that changes can change, so that undo and the snapshot copy just this. */
    private static final class HeatMap {
        private final char[] ground = new char[CELLS];
        private final int[] heat = new int[CELLS];
        private final int[] embers = new int[CELLS];
        private final int[] temperature = new int[SIDES];
        private final int[] lost = new int[SIDES];
        private int ticks = 0;
        private int relapses = 0;
        private int addedHeat = 0;

        HeatMap() {
            for (int cell = 0; cell < CELLS; cell++) {
                ground[cell] = PLAIN;
            }
        }

        void copyFrom(HeatMap other) {
            System.arraycopy(other.ground, 0, ground, 0, CELLS);
            System.arraycopy(other.heat, 0, heat, 0, CELLS);
            System.arraycopy(other.embers, 0, embers, 0, CELLS);
            System.arraycopy(other.temperature, 0, temperature, 0, SIDES);
            System.arraycopy(other.lost, 0, lost, 0, SIDES);
            ticks = other.ticks;
            relapses = other.relapses;
            addedHeat = other.addedHeat;
        }

        void addHeat(int cell, int amount) {
            heat[cell] += amount;
            addedHeat += amount;
        }

        boolean isRock(int cell) {
            return ground[cell] == ROCK;
        }

        /** Wants a cell that is not rock, since rock has no slowness. */
        int slownessOf(int cell) {
            if (ground[cell] == SAND) {
                return 8;
            }
            return ground[cell] == WATER ? 2 : 4;
        }

        int heatOfCells() {
            int sum = 0;
            for (int cell = 0; cell < CELLS; cell++) {
                sum += heat[cell];
            }
            return sum;
        }

        int embersOfCells() {
            int sum = 0;
            for (int cell = 0; cell < CELLS; cell++) {
                sum += embers[cell];
            }
            return sum;
        }

        int lostHeat() {
            int sum = 0;
            for (int side = 0; side < SIDES; side++) {
                sum += lost[side];
            }
            return sum;
        }

        int countOpenCells() {
            int open = 0;
            for (int cell = 0; cell < CELLS; cell++) {
                if (!isRock(cell)) {
                    open++;
                }
            }
            return open;
        }

        /** Returns how many cells stand before this one when the hottest is first. */
        int rankOf(int cell) {
            int rank = 0;
            for (int other = 0; other < CELLS; other++) {
                if (heat[other] > heat[cell] || (heat[other] == heat[cell] && other < cell)) {
                    rank++;
                }
            }
            return rank;
        }

        long cellsOfLevel(int level) {
            long cells = 0L;
            for (int cell = 0; cell < CELLS; cell++) {
                if (heat[cell] >= level) {
                    cells |= Shapes.bitOf(cell);
                }
            }
            return cells;
        }

        long openCellsUpTo(int greatest) {
            long cells = 0L;
            for (int cell = 0; cell < CELLS; cell++) {
                if (!isRock(cell) && heat[cell] <= greatest) {
                    cells |= Shapes.bitOf(cell);
                }
            }
            return cells;
        }

        char signOf(int cell) {
            if (heat[cell] == 0) {
                return embers[cell] == 0 ? ground[cell] : 'e';
            }
            return (char) ('0' + Math.min(9, heat[cell] / 100));
        }
    }

    /** Lets ticks pass on a map: the real one, or a copy for a forecast. */
    private static final class Ticker {
        private final int[] change = new int[CELLS];

        /** Returns the number of relapses. */
        int letTicksPass(HeatMap map, int ticks) {
            int relapses = 0;
            for (int passed = 0; passed < ticks; passed++) {
                letHeatFlow(map);
                makeEmbers(map);
                relapses += relapseCells(map);
            }
            map.ticks += ticks;
            map.relapses += relapses;
            return relapses;
        }

        /** Collects all flows before it moves any heat, since they happen at once. */
        private void letHeatFlow(HeatMap map) {
            for (int cell = 0; cell < CELLS; cell++) {
                change[cell] = 0;
            }
            for (int cell = 0; cell < CELLS; cell++) {
                flowTo(map, cell, neighbourOf(cell, RIGHT));
                flowTo(map, cell, neighbourOf(cell, BOTTOM));
            }
            for (int place = 0; place < WIDTH; place++) {
                leaveBy(map, TOP, place);
                leaveBy(map, RIGHT, WIDTH * place + WIDTH - 1);
                leaveBy(map, BOTTOM, CELLS - WIDTH + place);
                leaveBy(map, LEFT, WIDTH * place);
            }
            for (int cell = 0; cell < CELLS; cell++) {
                map.heat[cell] += change[cell];
            }
        }

        /** Java divides towards 0, which rounds the flow down whichever cell is the hotter one. */
        private void flowTo(HeatMap map, int cell, int neighbour) {
            if (neighbour == OUTSIDE || map.isRock(cell) || map.isRock(neighbour)) {
                return;
            }
            int slowness = map.slownessOf(cell) + map.slownessOf(neighbour);
            int flow = (map.heat[cell] - map.heat[neighbour]) / slowness;
            change[cell] -= flow;
            change[neighbour] += flow;
        }

        private void leaveBy(HeatMap map, int side, int cell) {
            int difference = map.heat[cell] - map.temperature[side];
            if (map.isRock(cell) || difference <= 0) {
                return;
            }
            int flow = difference / (2 * map.slownessOf(cell));
            change[cell] -= flow;
            map.lost[side] += flow;
        }

        private void makeEmbers(HeatMap map) {
            for (int cell = 0; cell < CELLS; cell++) {
                if (map.heat[cell] >= EMBER_HEAT) {
                    map.heat[cell] -= EMBER_UNITS;
                    map.embers[cell] += EMBER_UNITS;
                }
            }
        }

        /** Finds all relapses before it moves any embers, since they happen at once. */
        private int relapseCells(HeatMap map) {
            int relapses = 0;
            for (int cell = 0; cell < CELLS; cell++) {
                change[cell] = isRelapsing(map, cell) ? map.embers[cell] : 0;
            }
            for (int cell = 0; cell < CELLS; cell++) {
                if (change[cell] > 0) {
                    map.heat[cell] += change[cell];
                    map.embers[cell] = 0;
                    relapses++;
                }
            }
            return relapses;
        }

        private static boolean isRelapsing(HeatMap map, int cell) {
            if (map.embers[cell] <= 0 || map.heat[cell] >= COOL_HEAT) {
                return false;
            }
            for (int side = 0; side < SIDES; side++) {
                int neighbour = neighbourOf(cell, side);
                if (neighbour != OUTSIDE && map.heat[neighbour] >= HOT_HEAT) {
                    return true;
                }
            }
            return false;
        }
    }

    /** The maps before the latest changes, in a ring. */
    private static final class History {
        private final HeatMap[] befores = new HeatMap[KEPT_CHANGES];
        private int next = 0;
        private int kept = 0;

        History() {
            for (int place = 0; place < KEPT_CHANGES; place++) {
                befores[place] = new HeatMap();
            }
        }

        int size() {
            return kept;
        }

        void keep(HeatMap before) {
            befores[next].copyFrom(before);
            next = (next + 1) % KEPT_CHANGES;
            kept = Math.min(kept + 1, KEPT_CHANGES);
        }

        void takeBack(HeatMap map) {
            next = (next + KEPT_CHANGES - 1) % KEPT_CHANGES;
            kept--;
            map.copyFrom(befores[next]);
        }

        void forget() {
            kept = 0;
        }
    }

    /** Sets of cells as 64 bits: a cell is in a set if the bit of its number is 1. */
    private static final class Shapes {
        private static final long FIRST_COLUMN = 0x0101010101010101L;
        private static final long LAST_COLUMN = FIRST_COLUMN << (WIDTH - 1);
        private static final long FIRST_ROW = 0xFFL;
        private static final long LAST_ROW = FIRST_ROW << (CELLS - WIDTH);
        private static final long EDGE = FIRST_COLUMN | LAST_COLUMN | FIRST_ROW | LAST_ROW;

        static long bitOf(int cell) {
            return 1L << cell;
        }

        static boolean isIn(long cells, int cell) {
            return (cells >>> cell & 1L) != 0L;
        }

        /** Returns the part of the cells that neighbours connect with the seed. */
        static long fill(long seed, long cells) {
            long filled = seed & cells;
            for (int step = 0; step < CELLS; step++) {
                long grown = (withinRows(filled) | withinColumns(filled)) & cells;
                if (grown == filled) {
                    return filled;
                }
                filled = grown;
            }
            return filled;
        }

        /** The same as fill, but corners that touch connect as well. */
        static long fillByCorners(long seed, long cells) {
            long filled = seed & cells;
            for (int step = 0; step < CELLS; step++) {
                long grown = withinColumns(withinRows(filled)) & cells;
                if (grown == filled) {
                    return filled;
                }
                filled = grown;
            }
            return filled;
        }

        private static long withinRows(long cells) {
            return cells | ((cells & ~LAST_COLUMN) << 1) | ((cells & ~FIRST_COLUMN) >>> 1);
        }

        private static long withinColumns(long cells) {
            return cells | (cells << WIDTH) | (cells >>> WIDTH);
        }

        static int countRegions(long cells) {
            long left = cells;
            int count = 0;
            for (int cell = 0; cell < CELLS; cell++) {
                if (isIn(left, cell)) {
                    left &= ~fill(bitOf(cell), left);
                    count++;
                }
            }
            return count;
        }

        static int countHoles(long cells) {
            long left = ~cells;
            int count = 0;
            for (int cell = 0; cell < CELLS; cell++) {
                if (isIn(left, cell)) {
                    long gap = fillByCorners(bitOf(cell), left);
                    left &= ~gap;
                    if ((gap & EDGE) == 0L) {
                        count++;
                    }
                }
            }
            return count;
        }

        /**
         * Counts each corner of the regions that turns outwards as 1 and each that turns inwards
         * as -1; a region without holes has 4 more of the former, and each hole 4 more of the latter.
         */
        static int countSquares(long cells) {
            int corners = 0;
            for (int y = -1; y < WIDTH; y++) {
                for (int x = -1; x < WIDTH; x++) {
                    corners += cornersOfSquare(cells, x, y);
                }
            }
            return corners;
        }

        private static int cornersOfSquare(long cells, int x, int y) {
            int first = placeOf(cells, x, y);
            int second = placeOf(cells, x + 1, y);
            int third = placeOf(cells, x, y + 1);
            int fourth = placeOf(cells, x + 1, y + 1);
            int count = first + second + third + fourth;
            if (count == 2) {
                return first == fourth ? 2 : 0;
            }
            return count == 1 ? 1 : count == 3 ? -1 : 0;
        }

        private static int placeOf(long cells, int x, int y) {
            return isCell(x, y) && isIn(cells, cellOf(x, y)) ? 1 : 0;
        }

        static int measureContour(long cells) {
            int length = 0;
            for (int cell = 0; cell < CELLS; cell++) {
                if (isIn(cells, cell)) {
                    length += countFreeSides(cells, cell);
                }
            }
            return length;
        }

        private static int countFreeSides(long cells, int cell) {
            int free = 0;
            for (int side = 0; side < SIDES; side++) {
                int neighbour = neighbourOf(cell, side);
                if (neighbour == OUTSIDE || !isIn(cells, neighbour)) {
                    free++;
                }
            }
            return free;
        }

        /** Each pair of neighbours hides a side of both. */
        static int measureContourByPairs(long cells) {
            int pairsInRows = Long.bitCount(cells & (cells >>> 1) & ~LAST_COLUMN);
            int pairsInColumns = Long.bitCount(cells & (cells >>> WIDTH));
            return SIDES * Long.bitCount(cells) - 2 * (pairsInRows + pairsInColumns);
        }
    }

    /** Unites neighbours under one root. */
    private static final class Unions {
        private final int[] parent = new int[CELLS];

        int countRegions(long cells) {
            for (int cell = 0; cell < CELLS; cell++) {
                parent[cell] = cell;
            }
            int regions = Long.bitCount(cells);
            for (int cell = 0; cell < CELLS; cell++) {
                if (unite(cells, cell, neighbourOf(cell, RIGHT))) {
                    regions--;
                }
                if (unite(cells, cell, neighbourOf(cell, BOTTOM))) {
                    regions--;
                }
            }
            return regions;
        }

        /** Returns whether the two were apart before. */
        private boolean unite(long cells, int cell, int neighbour) {
            if (neighbour == OUTSIDE || !Shapes.isIn(cells, cell) || !Shapes.isIn(cells, neighbour)) {
                return false;
            }
            int root = rootOf(cell);
            int otherRoot = rootOf(neighbour);
            parent[otherRoot] = root;
            return root != otherRoot;
        }

        private int rootOf(int cell) {
            int root = cell;
            for (int step = 0; step < CELLS && parent[root] != root; step++) {
                root = parent[root];
            }
            return root;
        }
    }

    /**
     * A heap of cells with the greatest heats on the ways to them, the least on top. An entry holds
     * the number of the cell in its lowest 6 bits and the heat above them, so that entries compare
     * as plain numbers.
     */
    private static final class CellHeap {
        private static final long EMPTY = -1L;
        private final long[] entries = new long[CELLS];
        private int size = 0;

        /** Puts each cell in once at most: the first way that reaches it has the least heat. */
        int findPeak(HeatMap map, int from, int to) {
            size = 0;
            long open = map.isRock(from) ? 0L : Shapes.bitOf(from);
            long reached = open;
            if (open != 0L) {
                put(map.heat[from], from);
            }
            for (int taken = 0; taken < CELLS; taken++) {
                long entry = takeLeast();
                if (entry == EMPTY) {
                    return NO_WAY;
                }
                int cell = (int) (entry & (CELLS - 1));
                int peak = (int) (entry >> 6);
                if (cell == to) {
                    return peak;
                }
                reached = putNeighbours(map, cell, peak, reached);
            }
            return NO_WAY;
        }

        /** Returns the reached cells with the new ones. */
        private long putNeighbours(HeatMap map, int cell, int peak, long reached) {
            long nowReached = reached;
            for (int side = 0; side < SIDES; side++) {
                int neighbour = neighbourOf(cell, side);
                if (neighbour != OUTSIDE && !map.isRock(neighbour)
                        && !Shapes.isIn(nowReached, neighbour)) {
                    nowReached |= Shapes.bitOf(neighbour);
                    put(Math.max(peak, map.heat[neighbour]), neighbour);
                }
            }
            return nowReached;
        }

        private void put(int peak, int cell) {
            if (size >= CELLS) {
                return;
            }
            long entry = ((long) peak << 6) | cell;
            int place = size;
            for (int above = (place - 1) / 2; place > 0 && entries[above] > entry; above = (place - 1) / 2) {
                entries[place] = entries[above];
                place = above;
            }
            entries[place] = entry;
            size++;
        }

        private long takeLeast() {
            if (size <= 0) {
                return EMPTY;
            }
            long least = entries[0];
            size--;
            long last = entries[size];
            int place = 0;
            for (int below = 1; below < size; below = 2 * place + 1) {
                int child = below + 1 < size && entries[below + 1] < entries[below] ? below + 1 : below;
                if (entries[child] >= last) {
                    break;
                }
                entries[place] = entries[child];
                place = child;
            }
            entries[place] = last;
            return least;
        }
    }

    /** The best legend of a map: its heats in ascending order, and where classes begin in them. */
    private static final class Legend {
        private final int[] cells = new int[CELLS];
        private final int[] heats = new int[CELLS];
        private final int[] begins = new int[MOST_CLASSES + 1];
        private final int[][] table = new int[MOST_CLASSES + 1][CELLS + 1];
        private int count = 0;
        private int drawn = 0;

        /** Wants 1 to 6 classes and no fewer cells that are not rock. */
        void draw(HeatMap map, int classes) {
            readHeats(map);
            long marks = Shapes.bitOf(0);
            for (int marked = 1; marked < classes; marked++) {
                marks |= Shapes.bitOf(placeOfGreatestGap(marks));
            }
            drawn = 0;
            for (int place = 0; place < count && drawn < MOST_CLASSES; place++) {
                if (Shapes.isIn(marks, place)) {
                    begins[drawn] = place;
                    drawn++;
                }
            }
            begins[drawn] = count;
        }

        /** Sorts by putting each cell behind all that are as cool, which keeps equal ones in order. */
        private void readHeats(HeatMap map) {
            count = 0;
            for (int cell = 0; cell < CELLS; cell++) {
                if (!map.isRock(cell)) {
                    insert(cell, map.heat[cell]);
                }
            }
        }

        private void insert(int cell, int heat) {
            if (count >= CELLS) {
                return;
            }
            int place = count;
            while (place > 0 && heats[place - 1] > heat) {
                heats[place] = heats[place - 1];
                cells[place] = cells[place - 1];
                place--;
            }
            heats[place] = heat;
            cells[place] = cell;
            count++;
        }

        /** Returns the first place with the greatest gap before it that is not marked. */
        private int placeOfGreatestGap(long marks) {
            int found = 0;
            int greatest = -1;
            for (int place = 1; place < count; place++) {
                int gap = heats[place] - heats[place - 1];
                if (gap > greatest && !Shapes.isIn(marks, place)) {
                    found = place;
                    greatest = gap;
                }
            }
            return found;
        }

        int smallestHeat(int place) {
            return isDrawn(place) ? heats[begins[place]] : 0;
        }

        int greatestHeat(int place) {
            return isDrawn(place) ? heats[begins[place + 1] - 1] : 0;
        }

        private boolean isDrawn(int place) {
            return place >= 0 && place < drawn;
        }

        /** The gaps that divide are all that the spread leaves out. */
        int spread() {
            int spread = 0;
            for (int place = 0; place < drawn; place++) {
                spread += greatestHeat(place) - smallestHeat(place);
            }
            return spread;
        }

        int classOfCell(int cell) {
            for (int place = 0; place < drawn; place++) {
                for (int index = begins[place]; index < begins[place + 1]; index++) {
                    if (cells[index] == cell) {
                        return place;
                    }
                }
            }
            return 0;
        }

        /** The table holds the smallest spread of so many classes of so many coolest cells. */
        int findSpreadByTable(HeatMap map, int classes) {
            readHeats(map);
            for (int some = 1; some <= count; some++) {
                table[1][some] = heats[some - 1] - heats[0];
            }
            for (int row = 2; row <= classes; row++) {
                for (int some = row; some <= count; some++) {
                    table[row][some] = smallestSpread(row, some);
                }
            }
            return table[classes][count];
        }

        private int smallestSpread(int row, int some) {
            int smallest = table[row - 1][some - 1];
            for (int before = row - 1; before < some - 1; before++) {
                int spread = table[row - 1][before] + heats[some - 1] - heats[before];
                smallest = Math.min(smallest, spread);
            }
            return smallest;
        }
    }

    /** A command with the parameters of its call in their order. */
    private static final class Command {
        private int kind = HEAT;
        private int first = 0;
        private int second = 0;
        private int third = 0;
    }

    /** The command text, and the commands that were read from it. */
    private static final class CommandReader {
        private final StringBuilder text = new StringBuilder();
        private final Command[] commands = new Command[TEXT_LIMIT / SHORTEST_COMMAND];
        private int count = 0;
        private int position = 0;

        CommandReader() {
            for (int index = 0; index < commands.length; index++) {
                commands[index] = new Command();
            }
        }

        boolean isFull() {
            return text.length() >= TEXT_LIMIT;
        }

        int addCharacter(char character) {
            text.append(character);
            return text.length();
        }

        void clear() {
            text.setLength(0);
        }

        int commandCount() {
            return count;
        }

        Command commandAt(int index) {
            return commands[index];
        }

        /** Returns where reading has ended: the first character that cannot continue, if it failed. */
        int position() {
            return position;
        }

        boolean readText() {
            position = 0;
            count = 0;
            while (count < commands.length) {
                if (!readCommand(commands[count])) {
                    return false;
                }
                count++;
                if (!readSign(';')) {
                    return position == text.length();
                }
            }
            return false;
        }

        private boolean readCommand(Command command) {
            if (isNext('h')) {
                command.kind = HEAT;
                return readWord("heat ") && readCell(command) && readSign('+') && readThird(command);
            }
            if (isNext('g')) {
                command.kind = GROUND;
                return readWord("ground ") && readCell(command) && readGround(command);
            }
            if (isNext('b')) {
                command.kind = BORDER;
                return readWord("border ") && readSide(command) && readSign('=') && readSecond(command);
            }
            command.kind = PASS;
            return readWord("pass ") && readFirst(command);
        }

        private boolean readCell(Command command) {
            command.first = readDigit();
            if (command.first == NOT_SET) {
                return false;
            }
            command.second = readDigit();
            return command.second != NOT_SET;
        }

        private boolean readSide(Command command) {
            command.first = readDigit();
            return command.first != NOT_SET;
        }

        private boolean readGround(Command command) {
            if (position >= text.length() || !isGround(text.charAt(position))) {
                return false;
            }
            command.third = text.charAt(position);
            position++;
            return true;
        }

        private boolean readFirst(Command command) {
            command.first = readNumber();
            return command.first != NOT_SET;
        }

        private boolean readSecond(Command command) {
            command.second = readNumber();
            return command.second != NOT_SET;
        }

        private boolean readThird(Command command) {
            command.third = readNumber();
            return command.third != NOT_SET;
        }

        /** Reads one to four digits. */
        private int readNumber() {
            int number = readDigit();
            for (int more = 0; more < 3 && number != NOT_SET; more++) {
                int digit = readDigit();
                if (digit == NOT_SET) {
                    return number;
                }
                number = 10 * number + digit;
            }
            return number;
        }

        private int readDigit() {
            if (position >= text.length()) {
                return NOT_SET;
            }
            char sign = text.charAt(position);
            if (sign < '0' || sign > '9') {
                return NOT_SET;
            }
            position++;
            return sign - '0';
        }

        private boolean readWord(String word) {
            for (int index = 0; index < word.length(); index++) {
                if (!readSign(word.charAt(index))) {
                    return false;
                }
            }
            return true;
        }

        private boolean readSign(char sign) {
            if (!isNext(sign)) {
                return false;
            }
            position++;
            return true;
        }

        private boolean isNext(char sign) {
            return position < text.length() && text.charAt(position) == sign;
        }
    }
}
