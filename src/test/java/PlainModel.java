import java.util.ArrayDeque;
import java.util.ArrayList;
import java.util.Arrays;
import java.util.Collections;
import java.util.Deque;
import java.util.HashSet;
import java.util.List;
import java.util.NoSuchElementException;
import java.util.Set;
import java.util.regex.Matcher;
import java.util.regex.Pattern;

/**
 * The document once more, written in other ways than the class under test: with sets, regular
 * expressions and trial of all possibilities. Random runs compare the two.
 */
final class PlainModel {
    /** All that changes can change. */
    static final class State {
        final char[] ground = ".".repeat(64).toCharArray();
        final int[] heat = new int[64];
        final int[] embers = new int[64];
        final int[] borders = new int[4];
        final int[] lost = new int[4];
        int ticks;
        int relapses;
        int added;

        State copy() {
            State copy = new State();
            System.arraycopy(ground, 0, copy.ground, 0, 64);
            System.arraycopy(heat, 0, copy.heat, 0, 64);
            System.arraycopy(embers, 0, copy.embers, 0, 64);
            System.arraycopy(borders, 0, copy.borders, 0, 4);
            System.arraycopy(lost, 0, copy.lost, 0, 4);
            copy.ticks = ticks;
            copy.relapses = relapses;
            copy.added = added;
            return copy;
        }
    }

    private static final String COMMAND =
            "(?:heat \\d\\d\\+\\d{1,4}|ground \\d\\d[.:~#]|border \\d=\\d{1,4}|pass \\d{1,4})";
    private static final Pattern TEXT = Pattern.compile(COMMAND + "(?:;" + COMMAND + ")*");

    State now = new State();
    private State saved;
    private final Deque<State> changes = new ArrayDeque<>();
    private Integer reason;
    private int detail;
    private String text = "";
    private Integer errorPosition;
    private Integer failedCommand;
    private String line = "";

    private static void demand(boolean holds, RuntimeException otherwise) {
        if (!holds) {
            throw otherwise;
        }
    }

    private static int cell(int x, int y) {
        demand(Math.min(x, y) >= 0 && Math.max(x, y) <= 7, new IndexOutOfBoundsException());
        return 8 * y + x;
    }

    private static void demandLevel(int level) {
        demand(1 <= level && level <= 9999, new IllegalArgumentException());
    }

    private void refuse(int why, int how) {
        reason = why;
        detail = how;
        throw new UnsupportedOperationException();
    }

    private void change() {
        keepChange(now.copy());
    }

    private void keepChange(State before) {
        changes.push(before);
        if (changes.size() > 8) {
            changes.removeLast();
        }
    }

    char setGround(int x, int y, char ground) {
        int cell = cell(x, y);
        demand(".:~#".indexOf(ground) >= 0, new IllegalArgumentException());
        if (ground == '#' && now.heat[cell] + now.embers[cell] > 0) {
            refuse(2, now.heat[cell] + now.embers[cell]);
        }
        change();
        char before = now.ground[cell];
        now.ground[cell] = ground;
        return before;
    }

    char groundAt(int x, int y) {
        return now.ground[cell(x, y)];
    }

    int heatUp(int x, int y, int amount) {
        int cell = cell(x, y);
        demand(1 <= amount && amount <= 999, new IllegalArgumentException());
        if (now.ground[cell] == '#') {
            refuse(1, cell);
        }
        if (now.heat[cell] + amount > 9999) {
            refuse(3, now.heat[cell] + amount - 9999);
        }
        change();
        now.added += amount;
        now.heat[cell] += amount;
        return now.heat[cell];
    }

    int heatAt(int x, int y) {
        return now.heat[cell(x, y)];
    }

    int embersAt(int x, int y) {
        return now.embers[cell(x, y)];
    }

    int allHeat() {
        int sum = now.added;
        for (int lost : now.lost) {
            sum -= lost;
        }
        return sum;
    }

    int cellAtRank(int rank) {
        demand(0 <= rank && rank < 64, new NoSuchElementException());
        List<Integer> cells = new ArrayList<>();
        for (int cell = 0; cell < 64; cell++) {
            cells.add(cell);
        }
        cells.sort((a, b) -> now.heat[a] != now.heat[b] ? now.heat[b] - now.heat[a] : a - b);
        return cells.get(rank);
    }

    int refusalReason() {
        demand(reason != null, new NoSuchElementException());
        return reason;
    }

    int refusalDetail() {
        demand(reason != null, new NoSuchElementException());
        return detail;
    }

    int setBorder(int side, int temperature) {
        int before = border(side);
        demand(0 <= temperature && temperature <= 9999, new IllegalArgumentException());
        change();
        now.borders[side] = temperature;
        return before;
    }

    int border(int side) {
        demand(0 <= side && side <= 3, new IndexOutOfBoundsException());
        return now.borders[side];
    }

    int lostBy(int side) {
        border(side);
        return now.lost[side];
    }

    int pass(int ticks) {
        demand(1 <= ticks && ticks <= 20, new IllegalArgumentException());
        change();
        int before = now.relapses;
        for (int tick = 0; tick < ticks; tick++) {
            tick(now);
        }
        return now.relapses - before;
    }

    int ticks() {
        return now.ticks;
    }

    int relapses() {
        return now.relapses;
    }

    private static boolean neighbours(int a, int b) {
        return Math.abs(a % 8 - b % 8) + Math.abs(a / 8 - b / 8) == 1;
    }

    private static int slowness(char ground) {
        return ground == '.' ? 4 : ground == ':' ? 8 : 2;
    }

    private static boolean liesAt(int cell, int side) {
        return side == 0 ? cell < 8 : side == 1 ? cell % 8 == 7 : side == 2 ? cell > 55 : cell % 8 == 0;
    }

    private static void tick(State state) {
        state.ticks++;
        int[] before = state.heat.clone();
        for (int hot = 0; hot < 64; hot++) {
            for (int cool = 0; cool < 64; cool++) {
                if (neighbours(hot, cool) && before[hot] > before[cool]
                        && state.ground[hot] != '#' && state.ground[cool] != '#') {
                    int flow = (before[hot] - before[cool])
                            / (slowness(state.ground[hot]) + slowness(state.ground[cool]));
                    state.heat[hot] -= flow;
                    state.heat[cool] += flow;
                }
            }
            for (int side = 0; side < 4; side++) {
                if (liesAt(hot, side) && state.ground[hot] != '#' && before[hot] > state.borders[side]) {
                    int flow = (before[hot] - state.borders[side]) / (2 * slowness(state.ground[hot]));
                    state.heat[hot] -= flow;
                    state.lost[side] += flow;
                }
            }
        }
        burn(state);
    }

    private static void burn(State state) {
        for (int cell = 0; cell < 64; cell++) {
            if (state.heat[cell] >= 700) {
                state.heat[cell] -= 100;
                state.embers[cell] += 100;
            }
        }
        int[] before = state.heat.clone();
        for (int cell = 0; cell < 64; cell++) {
            boolean hot = false;
            for (int other = 0; other < 64; other++) {
                hot |= neighbours(cell, other) && before[other] >= 500;
            }
            if (state.embers[cell] > 0 && before[cell] < 300 && hot) {
                state.heat[cell] += state.embers[cell];
                state.embers[cell] = 0;
                state.relapses++;
            }
        }
    }

    int ticksUntilBelow(int level) {
        demandLevel(level);
        State later = now.copy();
        for (int tick = 0; tick <= 20; tick++) {
            int hottest = 0;
            for (int heat : later.heat) {
                hottest = Math.max(hottest, heat);
            }
            if (hottest < level) {
                return tick;
            }
            tick(later);
        }
        throw new NoSuchElementException();
    }

    private boolean isOf(int x, int y, int level) {
        return x >= 0 && x < 8 && y >= 0 && y < 8 && now.heat[8 * y + x] >= level;
    }

    long cellBits(int level) {
        demandLevel(level);
        long bits = 0;
        for (int cell = 63; cell >= 0; cell--) {
            bits = 2 * bits + (now.heat[cell] >= level ? 1 : 0);
        }
        return bits;
    }

    /** Gives all cells of a region the least of their numbers, and -1 to those not of the level. */
    private int[] regionNames(int level) {
        int[] names = new int[64];
        for (int cell = 0; cell < 64; cell++) {
            names[cell] = now.heat[cell] >= level ? cell : -1;
        }
        boolean renamed = true;
        while (renamed) {
            renamed = false;
            for (int cell = 0; cell < 64; cell++) {
                for (int other = 0; other < 64; other++) {
                    if (neighbours(cell, other) && names[other] >= 0 && names[other] < names[cell]) {
                        names[cell] = names[other];
                        renamed = true;
                    }
                }
            }
        }
        return names;
    }

    int regions(int level) {
        demandLevel(level);
        Set<Integer> names = new HashSet<>();
        for (int name : regionNames(level)) {
            names.add(name);
        }
        names.remove(-1);
        return names.size();
    }

    int regionSize(int x, int y, int level) {
        int cell = cell(x, y);
        demandLevel(level);
        int[] names = regionNames(level);
        int size = 0;
        for (int name : names) {
            size += name >= 0 && name == names[cell] ? 1 : 0;
        }
        return size;
    }

    /** Fills from outside of the map first, so that just the holes are left. */
    int holes(int level) {
        demandLevel(level);
        boolean[][] seen = new boolean[12][12];
        fillGap(seen, 1, 1, level);
        int holes = 0;
        for (int y = 0; y < 8; y++) {
            for (int x = 0; x < 8; x++) {
                if (!seen[y + 2][x + 2] && !isOf(x, y, level)) {
                    fillGap(seen, x + 2, y + 2, level);
                    holes++;
                }
            }
        }
        return holes;
    }

    private void fillGap(boolean[][] seen, int x, int y, int level) {
        if (x < 1 || x > 10 || y < 1 || y > 10 || seen[y][x] || isOf(x - 2, y - 2, level)) {
            return;
        }
        seen[y][x] = true;
        for (int dy = -1; dy <= 1; dy++) {
            for (int dx = -1; dx <= 1; dx++) {
                fillGap(seen, x + dx, y + dy, level);
            }
        }
    }

    int contourLength(int level) {
        demandLevel(level);
        int length = 0;
        for (int y = 0; y <= 8; y++) {
            for (int x = 0; x <= 8; x++) {
                length += isOf(x, y, level) != isOf(x - 1, y, level) ? 1 : 0;
                length += isOf(x, y, level) != isOf(x, y - 1, level) ? 1 : 0;
            }
        }
        return length;
    }

    int coolestPeak(int fromX, int fromY, int toX, int toY) {
        int from = cell(fromX, fromY);
        int to = cell(toX, toY);
        int[] peak = new int[64];
        Arrays.fill(peak, Integer.MAX_VALUE);
        peak[from] = now.ground[from] == '#' ? Integer.MAX_VALUE : now.heat[from];
        boolean lowered = true;
        while (lowered) {
            lowered = false;
            for (int cell = 0; cell < 64; cell++) {
                for (int other = 0; other < 64; other++) {
                    int way = Math.max(peak[other], now.heat[cell]);
                    if (neighbours(cell, other) && now.ground[cell] != '#' && way < peak[cell]) {
                        peak[cell] = way;
                        lowered = true;
                    }
                }
            }
        }
        demand(peak[to] < Integer.MAX_VALUE, new NoSuchElementException());
        return peak[to];
    }

    private List<Integer> openCells() {
        List<Integer> cells = new ArrayList<>();
        for (int cell = 0; cell < 64; cell++) {
            if (now.ground[cell] != '#') {
                cells.add(cell);
            }
        }
        cells.sort((a, b) -> now.heat[a] != now.heat[b] ? now.heat[a] - now.heat[b] : a - b);
        return cells;
    }

    /** Divides as often as wanted, each time at the greatest gap of all that are left. */
    private List<List<Integer>> legend(int classes) {
        demand(1 <= classes && classes <= 6, new IllegalArgumentException());
        List<Integer> cells = openCells();
        demand(cells.size() >= classes, new IllegalStateException());
        List<int[]> gaps = new ArrayList<>();
        for (int place = 1; place < cells.size(); place++) {
            gaps.add(new int[] {now.heat[cells.get(place)] - now.heat[cells.get(place - 1)], place});
        }
        gaps.sort((a, b) -> a[0] != b[0] ? b[0] - a[0] : a[1] - b[1]);
        List<Integer> ends = new ArrayList<>();
        for (int[] gap : gaps.subList(0, classes - 1)) {
            ends.add(gap[1]);
        }
        ends.add(cells.size());
        Collections.sort(ends);
        List<List<Integer>> legend = new ArrayList<>();
        int begin = 0;
        for (int end : ends) {
            legend.add(cells.subList(begin, end));
            begin = end;
        }
        return legend;
    }

    int legendSpread(int classes) {
        int spread = 0;
        for (List<Integer> one : legend(classes)) {
            spread += now.heat[one.get(one.size() - 1)] - now.heat[one.get(0)];
        }
        return spread;
    }

    int classBegin(int classes, int place) {
        List<List<Integer>> legend = legend(classes);
        demand(0 <= place && place < classes, new NoSuchElementException());
        return now.heat[legend.get(place).get(0)];
    }

    int classOf(int x, int y, int classes) {
        int cell = cell(x, y);
        List<List<Integer>> legend = legend(classes);
        for (int place = 0; place < classes; place++) {
            if (legend.get(place).contains(cell)) {
                return place;
            }
        }
        throw new UnsupportedOperationException();
    }

    int append(char character) {
        demand(32 <= character && character <= 126, new IllegalArgumentException());
        demand(text.length() < 60, new IllegalStateException());
        text += character;
        return text.length();
    }

    int run() {
        String commands = text;
        text = "";
        if (!TEXT.matcher(commands).matches()) {
            errorPosition = errorIn(commands);
            throw new IllegalArgumentException();
        }
        State before = now.copy();
        List<State> kept = new ArrayList<>(changes);
        String[] parts = commands.split(";");
        for (int index = 0; index < parts.length; index++) {
            try {
                carryOut(parts[index]);
            } catch (RuntimeException e) {
                now = before;
                changes.clear();
                changes.addAll(kept);
                failedCommand = index;
                throw new IllegalStateException();
            }
        }
        changes.clear();
        changes.addAll(kept);
        keepChange(before);
        return parts.length;
    }

    /** A text can be continued if the pattern fails for want of more characters only. */
    private static int errorIn(String commands) {
        for (int length = 1; length <= commands.length(); length++) {
            Matcher matcher = TEXT.matcher(commands.substring(0, length));
            if (!matcher.matches() && !matcher.hitEnd()) {
                return length - 1;
            }
        }
        return commands.length();
    }

    private void carryOut(String command) {
        String[] parts = command.split("[ +=]");
        int first = parts[1].charAt(0) - '0';
        int second = parts[1].length() > 1 ? parts[1].charAt(1) - '0' : 0;
        switch (parts[0]) {
            case "heat" -> heatUp(first, second, Integer.parseInt(parts[2]));
            case "ground" -> setGround(first, second, parts[1].charAt(2));
            case "border" -> setBorder(first, Integer.parseInt(parts[2]));
            default -> pass(Integer.parseInt(parts[1]));
        }
    }

    int errorPosition() {
        demand(errorPosition != null, new NoSuchElementException());
        return errorPosition;
    }

    int failedCommand() {
        demand(failedCommand != null, new NoSuchElementException());
        return failedCommand;
    }

    int describeRow(int y) {
        cell(0, y);
        StringBuilder row = new StringBuilder();
        for (int cell = 8 * y; cell < 8 * y + 8; cell++) {
            if (now.heat[cell] + now.embers[cell] == 0) {
                row.append(now.ground[cell]);
            } else {
                row.append(now.heat[cell] == 0 ? "e" : now.heat[cell] >= 900 ? "9" : "" + now.heat[cell] / 100);
            }
        }
        line = row.toString();
        return line.length();
    }

    int describeLegend(int classes) {
        List<String> parts = new ArrayList<>();
        for (List<Integer> one : legend(classes)) {
            parts.add(now.heat[one.get(0)] + "-" + now.heat[one.get(one.size() - 1)]);
        }
        line = String.join(",", parts);
        return line.length();
    }

    char lineAt(int index) {
        demand(0 <= index && index < line.length(), new IndexOutOfBoundsException());
        return line.charAt(index);
    }

    double meanHeat() {
        int sum = 0;
        for (int heat : now.heat) {
            sum += heat;
        }
        demand(!openCells().isEmpty(), new ArithmeticException());
        return (double) sum / openCells().size();
    }

    float levelShare(int level) {
        demandLevel(level);
        int count = 0;
        for (int heat : now.heat) {
            count += heat >= level ? 1 : 0;
        }
        return count / 64f;
    }

    int undo() {
        demand(!changes.isEmpty(), new IllegalStateException());
        now = changes.pop();
        return changes.size();
    }

    int save() {
        saved = now.copy();
        return now.ticks;
    }

    int restore() {
        demand(saved != null, new IllegalStateException());
        now = saved.copy();
        changes.clear();
        return now.ticks;
    }
}
