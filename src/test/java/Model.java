import java.math.BigInteger;
import java.util.ArrayDeque;
import java.util.ArrayList;
import java.util.Collections;
import java.util.Deque;
import java.util.List;
import java.util.regex.Matcher;
import java.util.regex.Pattern;

/**
 * The document once more, written for plainness and with the Java library, to compare with.
 * It answers a call by its name; an exception's name stands for the exception.
 */
final class Model {
    static final class Refused extends RuntimeException {
        private static final long serialVersionUID = 1L;

        Refused(String name) {
            super(name);
        }
    }

    private static final class ParseError extends Exception {
        private static final long serialVersionUID = 1L;
        final int code;
        final int offset;

        ParseError(int code, int offset) {
            this.code = code;
            this.offset = offset;
        }
    }

    record Spot(int x, int y) {
    }

    record Line(boolean island, List<Spot> spots) {
        int needed() {
            return island ? 3 : 2;
        }

        List<Integer> visited(int level) {
            List<Integer> visited = new ArrayList<>();
            for (int i = 0; i < spots.size(); i++) {
                if (i % (1 << level) == 0) {
                    visited.add(i);
                }
            }
            int end = island ? 0 : spots.size() - 1;
            if (island || visited.get(visited.size() - 1) != end) {
                visited.add(end);
            }
            return visited;
        }

        int length(int level, boolean king) {
            List<Integer> visited = visited(level);
            int length = 0;
            for (int i = 1; i < visited.size(); i++) {
                length += distance(spots.get(visited.get(i - 1)), spots.get(visited.get(i)), king);
            }
            return length;
        }

        Line without(int point) {
            List<Spot> rest = new ArrayList<>(spots);
            rest.remove(point);
            return new Line(island, rest);
        }

        /** Null if the coastline cannot be folded for the reason of the number of points. */
        Line folded(int height) {
            List<Spot> all = new ArrayList<>();
            for (int i = 0; i < spots.size(); i++) {
                Spot a = spots.get(i);
                all.add(a);
                if (i == spots.size() - 1 && !island) {
                    break;
                }
                Spot b = spots.get((i + 1) % spots.size());
                int x = Math.floorDiv(a.x + b.x, 2);
                int y = Math.floorDiv(a.y + b.y, 2);
                int move = i % 2 == 0 ? height : -height;
                boolean flat = Math.abs(a.x - b.x) >= Math.abs(a.y - b.y);
                all.add(flat ? new Spot(x, y + move) : new Spot(x + move, y));
            }
            return new Line(island, all);
        }

        int foldObstacle(int height) {
            Line folded = folded(height);
            return folded.spots.size() > 129 ? 1 : folded.inRange() ? 0 : 2;
        }

        boolean inRange() {
            return spots.stream().allMatch(s -> Math.abs(s.x) <= 1000 && Math.abs(s.y) <= 1000);
        }

        int area() {
            int sum = 0;
            for (int i = 0; i < spots.size(); i++) {
                Spot a = spots.get(i);
                Spot b = spots.get((i + 1) % spots.size());
                sum += a.x * b.y - b.x * a.y;
            }
            return sum;
        }

        boolean holds(Spot p) {
            int crossings = 0;
            for (int i = 0; i < spots.size(); i++) {
                Spot a = spots.get(i);
                Spot b = spots.get((i + 1) % spots.size());
                // On the segment: the way over p is as long as the way from a to b.
                long cross = (long) (b.x - a.x) * (p.y - a.y) - (long) (b.y - a.y) * (p.x - a.x);
                if (cross == 0 && distance(a, p, false) + distance(p, b, false)
                        == distance(a, b, false)) {
                    return true;
                }
                if (a.y > p.y != b.y > p.y) {
                    // x of the intersection times the height of the segment
                    long dy = Math.abs(b.y - a.y);
                    long way = (long) (p.y - a.y) * (b.x - a.x) * (b.y > a.y ? 1 : -1);
                    if (a.x * dy + way > p.x * dy) {
                        crossings++;
                    }
                }
            }
            return crossings % 2 == 1;
        }
    }

    record State(boolean king, List<Line> lines, int loaded, int added, int removed) {
        State copy() {
            return new State(king, new ArrayList<>(lines), loaded, added, removed);
        }
    }

    record Token(String text, int offset) {
        boolean number() {
            return !text.isEmpty() && Character.isDigit(text.charAt(0));
        }
    }

    record Order(String verb, Line line, int[] numbers, boolean king) {
    }

    private State state = new State(false, List.of(line(false, 0, 0, 4, 3, 8, 0, 12, 5, 20, 5),
            line(true, 30, 0, 50, 0, 50, 20, 30, 20), line(true, 35, 5, 45, 5, 40, 15)), 12, 0, 0);
    private State saved;
    private final Deque<State> past = new ArrayDeque<>();
    private String buffer = "";
    private String output = "";
    private int code = 0;
    private int offset = -1;

    private List<Token> tokens;
    private int at;

    private static Line line(boolean island, int... numbers) {
        List<Spot> spots = new ArrayList<>();
        for (int i = 0; i < numbers.length; i += 2) {
            spots.add(new Spot(numbers[i], numbers[i + 1]));
        }
        return new Line(island, spots);
    }

    static int distance(Spot a, Spot b, boolean king) {
        int dx = Math.abs(a.x - b.x);
        int dy = Math.abs(a.y - b.y);
        return king ? Math.max(dx, dy) : dx + dy;
    }

    // ---- exceptions

    private static void index(boolean good) {
        if (!good) {
            throw new Refused("IndexOutOfBoundsException");
        }
    }

    private static void argument(boolean good) {
        if (!good) {
            throw new Refused("IllegalArgumentException");
        }
    }

    private static void possible(boolean good) {
        if (!good) {
            throw new Refused("IllegalStateException");
        }
    }

    private static boolean within(int value, int least, int greatest) {
        return least <= value && value <= greatest;
    }

    private Line coast(int coast) {
        index(within(coast, 0, state.lines.size() - 1));
        return state.lines.get(coast);
    }

    private Spot spot(int coast, int point) {
        Line line = coast(coast);
        index(within(point, 0, line.spots.size() - 1));
        return line.spots.get(point);
    }

    // ---- parsing

    private void begin(String text) {
        tokens = new ArrayList<>();
        at = 0;
        Matcher m = Pattern.compile("[a-z]+|[0-9]+|[^ \n]").matcher(text);
        while (m.find()) {
            tokens.add(new Token(m.group(), m.start()));
        }
        tokens.add(new Token("", text.length()));
    }

    private Token here() {
        return tokens.get(at);
    }

    private ParseError error(int errorCode) {
        return new ParseError(errorCode, here().offset);
    }

    private String take(String... words) throws ParseError {
        for (String word : words) {
            if (here().text.equals(word)) {
                at++;
                return word;
            }
        }
        throw error(1);
    }

    private int number(int least, int greatest, int sign, boolean tooMany) throws ParseError {
        if (!here().number()) {
            throw error(1);
        }
        BigInteger value = new BigInteger(here().text).multiply(BigInteger.valueOf(sign));
        if (value.compareTo(BigInteger.valueOf(least)) < 0
                || value.compareTo(BigInteger.valueOf(greatest)) > 0) {
            throw error(2);
        }
        if (tooMany) {
            throw error(3);
        }
        at++;
        return value.intValue();
    }

    private int integer(int limit, boolean tooMany) throws ParseError {
        int sign = 1;
        if (here().text.equals("-")) {
            if (tooMany) {
                throw error(3);
            }
            at++;
            sign = -1;
        }
        return number(-limit, limit, sign, tooMany);
    }

    private Line coastText() throws ParseError {
        boolean island = take("shore", "island").equals("island");
        Line line = new Line(island, new ArrayList<>());
        while (true) {
            int x = integer(1000, line.spots.size() == 33);
            line.spots.add(new Spot(x, integer(1000, false)));
            if (!here().text.equals(",")) {
                break;
            }
            at++;
        }
        if (line.spots.size() < line.needed()) {
            throw error(1);
        }
        return line;
    }

    private State mapText() throws ParseError {
        take("map");
        boolean king = take("taxicab", "king").equals("king");
        take(";");
        List<Line> lines = new ArrayList<>();
        while (!here().text.isEmpty()) {
            if (lines.size() == 6) {
                take("shore", "island");
                at--;
                throw error(3);
            }
            lines.add(coastText());
            take(";");
        }
        int points = lines.stream().mapToInt(l -> l.spots.size()).sum();
        return new State(king, lines, points, 0, 0);
    }

    private List<Order> scriptText() throws ParseError {
        List<Order> orders = new ArrayList<>();
        while (!here().text.isEmpty()) {
            String verb = take("shore", "island", "fold", "unfold", "move", "insert", "drop",
                    "shift", "reverse", "remove", "metric");
            if (orders.size() == 20) {
                at--;
                throw error(3);
            }
            orders.add(order(verb));
            take(";");
        }
        return orders;
    }

    private Order order(String verb) throws ParseError {
        if (verb.equals("shore") || verb.equals("island")) {
            at--;
            return new Order(verb, coastText(), null, false);
        }
        if (verb.equals("metric")) {
            return new Order(verb, null, null, take("taxicab", "king").equals("king"));
        }
        int coast = number(0, 5, 1, false);
        int[] n = switch (verb) {
            case "fold" -> new int[] {coast, integer(50, false)};
            case "move", "insert" -> new int[] {coast, number(0, 128, 1, false),
                integer(1000, false), integer(1000, false)};
            case "drop" -> new int[] {coast, number(0, 128, 1, false)};
            case "shift" -> new int[] {coast, integer(2000, false), integer(2000, false)};
            default -> new int[] {coast};
        };
        return new Order(verb, null, n, false);
    }

    private String takeText(int length) {
        String text = buffer.substring(0, length);
        buffer = "";
        code = 0;
        offset = -1;
        begin(text);
        return text;
    }

    private long failed(ParseError e) {
        code = e.code;
        offset = e.offset;
        return -1;
    }

    // ---- changes; they change the state, and nothing if they are refused

    private void put(int coast, Line line) {
        int more = line.spots.size() - state.lines.get(coast).spots.size();
        List<Line> lines = new ArrayList<>(state.lines);
        lines.set(coast, line);
        state = new State(state.king, lines, state.loaded, state.added + Math.max(more, 0),
                state.removed + Math.max(-more, 0));
    }

    private long add(Line line) {
        possible(state.lines.size() < 6);
        List<Line> lines = new ArrayList<>(state.lines);
        lines.add(line);
        state = new State(state.king, lines, state.loaded, state.added + line.spots.size(),
                state.removed);
        return lines.size() - 1;
    }

    private long change(String call, int[] n) {
        switch (call) {
            case "setKingMetric": {
                long before = state.king ? 1 : 0;
                state = new State(n[0] == 1, state.lines, state.loaded, state.added, state.removed);
                return before;
            }
            case "removeCoast": {
                int gone = coast(n[0]).spots.size();
                List<Line> lines = new ArrayList<>(state.lines);
                lines.remove(n[0]);
                state = new State(state.king, lines, state.loaded, state.added,
                        state.removed + gone);
                return gone;
            }
            case "fold": {
                Line line = coast(n[0]);
                argument(within(n[1], -50, 50));
                possible(line.foldObstacle(n[1]) == 0);
                put(n[0], line.folded(n[1]));
                break;
            }
            case "unfold": {
                Line line = coast(n[0]);
                Line left = new Line(line.island, new ArrayList<>());
                for (int i = 0; i < line.spots.size(); i += 2) {
                    left.spots.add(line.spots.get(i));
                }
                possible(left.spots.size() >= line.needed());
                put(n[0], left);
                break;
            }
            case "shift": {
                Line line = coast(n[0]);
                argument(within(n[1], -2000, 2000) && within(n[2], -2000, 2000));
                Line moved = new Line(line.island, new ArrayList<>());
                line.spots.forEach(s -> moved.spots.add(new Spot(s.x + n[1], s.y + n[2])));
                possible(moved.inRange());
                put(n[0], moved);
                break;
            }
            case "reverse": {
                Line line = new Line(coast(n[0]).island, new ArrayList<>(coast(n[0]).spots));
                Collections.reverse(line.spots);
                put(n[0], line);
                break;
            }
            default:
                return changePoint(call, n);
        }
        return coast(n[0]).spots.size();
    }

    private long changePoint(String call, int[] n) {
        Line line = coast(n[0]);
        Line next = new Line(line.island, new ArrayList<>(line.spots));
        switch (call) {
            case "movePoint": {
                Spot before = spot(n[0], n[1]);
                Spot after = new Spot(n[2], n[3]);
                argument(within(n[2], -1000, 1000) && within(n[3], -1000, 1000));
                next.spots.set(n[1], after);
                put(n[0], next);
                return distance(before, after, state.king);
            }
            case "insertPoint":
                index(within(n[1], 0, line.spots.size()));
                argument(within(n[2], -1000, 1000) && within(n[3], -1000, 1000));
                possible(line.spots.size() < 129);
                next.spots.add(n[1], new Spot(n[2], n[3]));
                break;
            case "removePoint":
                spot(n[0], n[1]);
                possible(line.spots.size() > line.needed());
                next.spots.remove(n[1]);
                break;
            default:
                throw new IllegalArgumentException(call);
        }
        put(n[0], next);
        return next.spots.size();
    }

    private void obey(Order order) {
        switch (order.verb) {
            case "shore", "island" -> add(order.line);
            case "metric" -> change("setKingMetric", new int[] {order.king ? 1 : 0});
            case "move" -> change("movePoint", order.numbers);
            case "insert" -> change("insertPoint", order.numbers);
            case "drop" -> change("removePoint", order.numbers);
            case "remove" -> change("removeCoast", order.numbers);
            default -> change(order.verb, order.numbers);
        }
    }

    private void remember(State before) {
        past.push(before);
        if (past.size() > 8) {
            past.removeLast();
        }
    }

    // ---- the calls

    double call(String call, int[] n) {
        switch (call) {
            case "setKingMetric", "removeCoast", "fold", "unfold", "movePoint", "insertPoint",
                    "removePoint", "shift", "reverse": {
                State before = state.copy();
                long answer = change(call, n);
                remember(before);
                return answer;
            }
            case "appendText", "loadMap", "addCoast", "runScript":
                return callText(call, n);
            case "lengthAt", "stickCount", "stickStart", "stickLength", "longestStick",
                    "lengthGain", "levelOfGreatestGain", "coarsestLevelFor", "coarsestExactLevel",
                    "totalLength", "longestCoast", "refinementRatio", "meanStickLength",
                    "lengthInOtherMetric", "writeLengths", "lengthAfterFold":
                return callSticks(call, n);
            case "doubledArea", "isCounterclockwise", "contains", "encloses",
                    "innermostIslandAround", "ringDepth":
                return callIslands(call, n);
            default:
                return callPlain(call, n);
        }
    }

    private double callText(String call, int[] n) {
        if (call.equals("appendText")) {
            if (buffer.length() + 20 > 700) {
                return -1;
            }
            StringBuilder text = new StringBuilder(buffer);
            for (int word : n) {
                for (int i = 3; i >= 0; i--) {
                    text.append((char) (word >>> 8 * i & 255));
                }
            }
            buffer = text.toString();
            return buffer.length();
        }
        argument(within(n[0], 0, buffer.length()));
        possible(!call.equals("addCoast") || state.lines.size() < 6);
        takeText(n[0]);
        State before = state.copy();
        try {
            switch (call) {
                case "loadMap":
                    state = mapText();
                    past.clear();
                    saved = null;
                    return state.lines.size();
                case "addCoast": {
                    Line line = coastText();
                    take("");
                    remember(before);
                    return add(line);
                }
                default: {
                    List<Order> orders = scriptText();
                    remember(before);
                    int done = 0;
                    for (Order order : orders) {
                        try {
                            obey(order);
                        } catch (Refused e) {
                            break;
                        }
                        done++;
                    }
                    return done;
                }
            }
        } catch (ParseError e) {
            return failed(e);
        }
    }

    private double callSticks(String call, int[] n) {
        boolean king = state.king;
        if (call.equals("totalLength") || call.equals("longestCoast")) {
            argument(within(n[0], 0, 7));
            int[] lengths = state.lines.stream().mapToInt(l -> l.length(n[0], king)).toArray();
            return call.equals("totalLength") ? java.util.Arrays.stream(lengths).sum()
                    : firstGreatest(lengths);
        }
        Line line = coast(n[0]);
        int[] lengths = new int[8];
        for (int level = 0; level < 8; level++) {
            lengths[level] = line.length(level, king);
        }
        int[] gains = new int[7];
        for (int level = 0; level < 7; level++) {
            gains[level] = lengths[level] - lengths[level + 1];
        }
        switch (call) {
            case "levelOfGreatestGain":
                return firstGreatest(gains);
            case "coarsestExactLevel":
                return lastAtLeast(lengths, lengths[0]);
            case "coarsestLevelFor":
                argument(n[1] >= 0);
                return lastAtLeast(lengths, n[1]);
            case "lengthAfterFold":
                argument(within(n[1], -50, 50) && within(n[2], 0, 7));
                return line.foldObstacle(n[1]) != 0 ? -1 : line.folded(n[1]).length(n[2], king);
            case "writeLengths": {
                List<String> texts = new ArrayList<>();
                for (int level = 0; level < 8; level++) {
                    texts.add(String.valueOf(lengths[level]));
                    if (line.visited(level).size() - 1 <= (line.island ? 2 : 1)) {
                        break;
                    }
                }
                output = String.join(" ", texts);
                return output.length();
            }
            default:
                break;
        }
        boolean twoLevels = call.equals("lengthGain") || call.equals("refinementRatio");
        argument(within(n[1], 0, twoLevels ? 6 : 7));
        List<Integer> visited = line.visited(n[1]);
        int[] sticks = new int[visited.size() - 1];
        for (int i = 0; i < sticks.length; i++) {
            sticks[i] = distance(line.spots.get(visited.get(i)), line.spots.get(visited.get(i + 1)),
                    king);
        }
        switch (call) {
            case "lengthAt":
                return lengths[n[1]];
            case "stickCount":
                return sticks.length;
            case "longestStick":
                return firstGreatest(sticks);
            case "lengthGain":
                return gains[n[1]];
            case "refinementRatio":
                return lengths[n[1] + 1] == 0 ? 0.0 : (double) lengths[n[1]] / lengths[n[1] + 1];
            case "meanStickLength":
                return (float) lengths[n[1]] / (float) sticks.length;
            case "lengthInOtherMetric":
                return line.length(n[1], !king);
            default:
                argument(within(n[2], 0, sticks.length - 1));
                return call.equals("stickStart") ? visited.get(n[2]) : sticks[n[2]];
        }
    }

    private static int firstGreatest(int[] values) {
        int best = -1;
        for (int i = 0; i < values.length; i++) {
            if (best < 0 || values[i] > values[best]) {
                best = i;
            }
        }
        return best;
    }

    private static int lastAtLeast(int[] values, int least) {
        for (int i = values.length - 1; i >= 0; i--) {
            if (values[i] >= least) {
                return i;
            }
        }
        return -1;
    }

    private boolean around(int island, int coast) {
        Line outer = state.lines.get(island);
        return island != coast && outer.island
                && state.lines.get(coast).spots.stream().allMatch(outer::holds);
    }

    private double callIslands(String call, int[] n) {
        Line line = coast(n[0]);
        switch (call) {
            case "innermostIslandAround", "ringDepth": {
                int depth = 0;
                int best = -1;
                for (int i = 0; i < state.lines.size(); i++) {
                    if (around(i, n[0])) {
                        depth++;
                        if (best < 0 || Math.abs(state.lines.get(i).area())
                                < Math.abs(state.lines.get(best).area())) {
                            best = i;
                        }
                    }
                }
                return call.equals("ringDepth") ? depth : best;
            }
            case "encloses":
                coast(n[1]);
                possible(line.island);
                return around(n[0], n[1]) ? 1 : 0;
            default:
                break;
        }
        possible(line.island);
        switch (call) {
            case "doubledArea":
                return Math.abs(line.area());
            case "isCounterclockwise":
                return line.area() > 0 ? 1 : 0;
            default:
                argument(within(n[1], -1000, 1000) && within(n[2], -1000, 1000));
                return line.holds(new Spot(n[1], n[2])) ? 1 : 0;
        }
    }

    private double callPlain(String call, int[] n) {
        switch (call) {
            case "errorCode":
                return code;
            case "errorOffset":
                return offset;
            case "coastCount":
                return state.lines.size();
            case "usesKingMetric":
                return state.king ? 1 : 0;
            case "loadedPoints":
                return state.loaded;
            case "addedPoints":
                return state.added;
            case "removedPoints":
                return state.removed;
            case "ledgerGap":
                return 0;
            case "undoableCount":
                return past.size();
            case "undo":
                possible(!past.isEmpty());
                state = past.pop();
                return past.size();
            case "saveSnapshot":
                saved = state.copy();
                return 0;
            case "restoreSnapshot":
                possible(saved != null);
                state = saved.copy();
                past.clear();
                return state.lines.size();
            case "outputByte":
                index(within(n[0], 0, output.length() - 1));
                return output.charAt(n[0]);
            default:
                return callCoast(call, n);
        }
    }

    private double callCoast(String call, int[] n) {
        Line line = coast(n[0]);
        switch (call) {
            case "isIsland":
                return line.island ? 1 : 0;
            case "pointCount":
                return line.spots.size();
            case "pointX":
                return spot(n[0], n[1]).x;
            case "pointY":
                return spot(n[0], n[1]).y;
            case "pointDistance":
                return distance(spot(n[0], n[1]), spot(n[0], n[2]), state.king);
            case "nearestPoint": {
                argument(within(n[1], -1000, 1000) && within(n[2], -1000, 1000));
                Spot place = new Spot(n[1], n[2]);
                return firstGreatest(line.spots.stream()
                        .mapToInt(s -> -distance(s, place, state.king)).toArray());
            }
            case "boxWidth":
                return line.spots.stream().mapToInt(Spot::x).max().getAsInt()
                        - line.spots.stream().mapToInt(Spot::x).min().getAsInt();
            case "boxHeight":
                return line.spots.stream().mapToInt(Spot::y).max().getAsInt()
                        - line.spots.stream().mapToInt(Spot::y).min().getAsInt();
            case "foldObstacle":
                argument(within(n[1], -50, 50));
                return line.foldObstacle(n[1]);
            case "lengthWithoutPoint":
                spot(n[0], n[1]);
                return without(line, n[1]);
            case "leastImportantPoint": {
                int[] lengths = new int[line.spots.size()];
                for (int i = 0; i < lengths.length; i++) {
                    lengths[i] = without(line, i);
                }
                return lengths[0] < 0 ? -1 : firstGreatest(lengths);
            }
            default:
                throw new IllegalArgumentException(call);
        }
    }

    private int without(Line line, int point) {
        return line.spots.size() == line.needed() ? -1 : line.without(point).length(0, state.king);
    }
}
