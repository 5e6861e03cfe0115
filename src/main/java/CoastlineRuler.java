/** A measuring kit for coastlines, which are polylines on an integer grid. */
public final class CoastlineRuler {
    private static final int COAST_LIMIT = 6;
    private static final int POINT_LIMIT = 129;
    private static final int TEXT_POINT_LIMIT = 33;
    private static final int COMMAND_LIMIT = 20;
    private static final int TEXT_LIMIT = 700;
    private static final int UNDO_LIMIT = 8;
    private static final int COORDINATE_LIMIT = 1000;
    private static final int HEIGHT_LIMIT = 50;
    private static final int SHIFT_LIMIT = 2000;
    private static final int COARSEST_LEVEL = 7;

    private static final int NOT_ALLOWED = 1;
    private static final int OUT_OF_RANGE = 2;
    private static final int TOO_MANY = 3;

    // Why a change cannot be made, in the order in which the document lists the exceptions.
    private static final int NOTHING = 0;
    private static final int BAD_INDEX = 1;
    private static final int BAD_ARGUMENT = 2;
    private static final int BAD_STATE = 3;

    private static final int[] FIRST_COAST = {0, 0, 4, 3, 8, 0, 12, 5, 20, 5};
    private static final int[] SECOND_COAST = {30, 0, 50, 0, 50, 20, 30, 20};
    private static final int[] THIRD_COAST = {35, 5, 45, 5, 40, 15};

    private final Chart chart = new Chart();
    private final Chart loading = new Chart();
    private final Chart snapshot = new Chart();
    private boolean hasSnapshot;
    private final Chart[] past = new Chart[UNDO_LIMIT];
    private int pastCount;
    private int pastNext;
    private final Tokens tokens = new Tokens();
    private final Grammar grammar = new Grammar(tokens);
    private final Command[] script = new Command[COMMAND_LIMIT];
    private final Command single = new Command();
    private final Coast spare = new Coast(POINT_LIMIT);
    private final StringBuilder output = new StringBuilder();

    public CoastlineRuler() {
        for (int i = 0; i < UNDO_LIMIT; i++) {
            past[i] = new Chart();
        }
        for (int i = 0; i < COMMAND_LIMIT; i++) {
            script[i] = new Command();
        }
        chart.place(FIRST_COAST, false);
        chart.place(SECOND_COAST, true);
        chart.place(THIRD_COAST, true);
        chart.startLedgers();
    }

    // ---- text input

    public int appendText(int a, int b, int c, int d, int e) {
        if (tokens.held + 20 > TEXT_LIMIT) {
            return -1;
        }
        tokens.append(a);
        tokens.append(b);
        tokens.append(c);
        tokens.append(d);
        tokens.append(e);
        return tokens.held;
    }

    public int loadMap(int length) throws IllegalArgumentException {
        requireText(length);
        boolean isRead = grammar.readMap(length, loading);
        tokens.held = 0;
        if (!isRead) {
            return -1;
        }
        loading.startLedgers();
        chart.copyFrom(loading);
        pastCount = 0;
        hasSnapshot = false;
        return chart.count;
    }

    public int errorCode() {
        return grammar.code;
    }

    public int errorOffset() {
        return grammar.offset;
    }

    // ---- the map

    public int coastCount() {
        return chart.count;
    }

    public boolean usesKingMetric() {
        return chart.isKing;
    }

    public boolean isIsland(int coast) throws IndexOutOfBoundsException {
        return coastAt(coast).isClosed;
    }

    public int pointCount(int coast) throws IndexOutOfBoundsException {
        return coastAt(coast).count;
    }

    public int pointX(int coast, int point) throws IndexOutOfBoundsException {
        return coastWithPoint(coast, point).xs[point];
    }

    public int pointY(int coast, int point) throws IndexOutOfBoundsException {
        return coastWithPoint(coast, point).ys[point];
    }

    public int pointDistance(int coast, int first, int second) throws IndexOutOfBoundsException {
        coastWithPoint(coast, first);
        return coastWithPoint(coast, second).distance(first, second, chart.isKing);
    }

    public int nearestPoint(int coast, int x, int y)
            throws IndexOutOfBoundsException, IllegalArgumentException {
        Coast line = coastAt(coast);
        requireWithin(x, -COORDINATE_LIMIT, COORDINATE_LIMIT);
        requireWithin(y, -COORDINATE_LIMIT, COORDINATE_LIMIT);
        return line.nearestTo(x, y, chart.isKing);
    }

    // ---- sticks

    public int lengthAt(int coast, int level)
            throws IndexOutOfBoundsException, IllegalArgumentException {
        Coast line = coastAt(coast);
        requireWithin(level, 0, COARSEST_LEVEL);
        return line.measure(level, chart.isKing);
    }

    public int stickCount(int coast, int level)
            throws IndexOutOfBoundsException, IllegalArgumentException {
        Coast line = coastAt(coast);
        requireWithin(level, 0, COARSEST_LEVEL);
        return line.sticks(level);
    }

    public int stickStart(int coast, int level, int stick)
            throws IndexOutOfBoundsException, IllegalArgumentException {
        Coast line = coastAt(coast);
        requireStick(line, level, stick);
        return line.stickFrom(level, stick);
    }

    public int stickLength(int coast, int level, int stick)
            throws IndexOutOfBoundsException, IllegalArgumentException {
        Coast line = coastAt(coast);
        requireStick(line, level, stick);
        return line.stickSpan(level, stick, chart.isKing);
    }

    public int longestStick(int coast, int level)
            throws IndexOutOfBoundsException, IllegalArgumentException {
        Coast line = coastAt(coast);
        requireWithin(level, 0, COARSEST_LEVEL);
        int best = 0;
        int bestSpan = -1;
        int sticks = line.sticks(level);
        for (int stick = 0; stick < sticks; stick++) {
            int span = line.stickSpan(level, stick, chart.isKing);
            if (span > bestSpan) {
                best = stick;
                bestSpan = span;
            }
        }
        return best;
    }

    public int lengthGain(int coast, int level)
            throws IndexOutOfBoundsException, IllegalArgumentException {
        Coast line = coastAt(coast);
        requireWithin(level, 0, COARSEST_LEVEL - 1);
        return line.gain(level, chart.isKing);
    }

    public int levelOfGreatestGain(int coast) throws IndexOutOfBoundsException {
        Coast line = coastAt(coast);
        int best = 0;
        int bestGain = -1;
        for (int level = 0; level < COARSEST_LEVEL; level++) {
            int gain = line.gain(level, chart.isKing);
            if (gain > bestGain) {
                best = level;
                bestGain = gain;
            }
        }
        return best;
    }

    public int coarsestLevelFor(int coast, int length)
            throws IndexOutOfBoundsException, IllegalArgumentException {
        Coast line = coastAt(coast);
        requireWithin(length, 0, Integer.MAX_VALUE);
        return line.coarsestReaching(length, chart.isKing);
    }

    public int coarsestExactLevel(int coast) throws IndexOutOfBoundsException {
        Coast line = coastAt(coast);
        // No level is longer than level 0, so reaching its length is equalling it.
        return line.coarsestReaching(line.measure(0, chart.isKing), chart.isKing);
    }

    public int totalLength(int level) throws IllegalArgumentException {
        requireWithin(level, 0, COARSEST_LEVEL);
        int total = 0;
        for (int i = 0; i < chart.count; i++) {
            total += chart.coasts[i].measure(level, chart.isKing);
        }
        return total;
    }

    public int longestCoast(int level) throws IllegalArgumentException {
        requireWithin(level, 0, COARSEST_LEVEL);
        int best = -1;
        int bestLength = -1;
        for (int i = 0; i < chart.count; i++) {
            int length = chart.coasts[i].measure(level, chart.isKing);
            if (length > bestLength) {
                best = i;
                bestLength = length;
            }
        }
        return best;
    }

    public double refinementRatio(int coast, int level)
            throws IndexOutOfBoundsException, IllegalArgumentException {
        Coast line = coastAt(coast);
        requireWithin(level, 0, COARSEST_LEVEL - 1);
        int coarser = line.measure(level + 1, chart.isKing);
        if (coarser == 0) {
            return 0.0;
        }
        return (double) line.measure(level, chart.isKing) / (double) coarser;
    }

    public float meanStickLength(int coast, int level)
            throws IndexOutOfBoundsException, IllegalArgumentException {
        Coast line = coastAt(coast);
        requireWithin(level, 0, COARSEST_LEVEL);
        int sticks = line.sticks(level);
        if (sticks == 0) {
            return 0.0f;
        }
        return (float) line.measure(level, chart.isKing) / (float) sticks;
    }

    // ---- islands

    public int doubledArea(int coast) throws IndexOutOfBoundsException, IllegalStateException {
        return Math.abs(islandAt(coast).signedArea());
    }

    public boolean isCounterclockwise(int coast)
            throws IndexOutOfBoundsException, IllegalStateException {
        return islandAt(coast).signedArea() > 0;
    }

    public boolean contains(int coast, int x, int y)
            throws IndexOutOfBoundsException, IllegalStateException, IllegalArgumentException {
        Coast line = islandAt(coast);
        requireWithin(x, -COORDINATE_LIMIT, COORDINATE_LIMIT);
        requireWithin(y, -COORDINATE_LIMIT, COORDINATE_LIMIT);
        return line.covers(x, y);
    }

    public boolean encloses(int island, int coast)
            throws IndexOutOfBoundsException, IllegalStateException {
        Coast inner = coastAt(coast);
        Coast outer = islandAt(island);
        return island != coast && outer.coversAll(inner);
    }

    public int innermostIslandAround(int coast) throws IndexOutOfBoundsException {
        coastAt(coast);
        int best = -1;
        int bestArea = 0;
        for (int i = 0; i < chart.count; i++) {
            if (chart.surrounds(i, coast)) {
                int area = Math.abs(chart.coasts[i].signedArea());
                if (best < 0 || area < bestArea) {
                    best = i;
                    bestArea = area;
                }
            }
        }
        return best;
    }

    public int ringDepth(int coast) throws IndexOutOfBoundsException {
        coastAt(coast);
        int depth = 0;
        for (int i = 0; i < chart.count; i++) {
            if (chart.surrounds(i, coast)) {
                depth++;
            }
        }
        return depth;
    }

    public int boxWidth(int coast) throws IndexOutOfBoundsException {
        Coast line = coastAt(coast);
        return extent(line.xs, line.count);
    }

    public int boxHeight(int coast) throws IndexOutOfBoundsException {
        Coast line = coastAt(coast);
        return extent(line.ys, line.count);
    }

    // ---- what a change would do

    public int foldObstacle(int coast, int height)
            throws IndexOutOfBoundsException, IllegalArgumentException {
        Coast line = coastAt(coast);
        requireWithin(height, -HEIGHT_LIMIT, HEIGHT_LIMIT);
        return line.whyNotFold(height);
    }

    public int lengthAfterFold(int coast, int height, int level)
            throws IndexOutOfBoundsException, IllegalArgumentException {
        Coast line = coastAt(coast);
        requireWithin(height, -HEIGHT_LIMIT, HEIGHT_LIMIT);
        requireWithin(level, 0, COARSEST_LEVEL);
        if (line.whyNotFold(height) != 0) {
            return -1;
        }
        spare.copyFrom(line);
        spare.insertMidpoints(height);
        return spare.measure(level, chart.isKing);
    }

    public int lengthWithoutPoint(int coast, int point) throws IndexOutOfBoundsException {
        return coastWithPoint(coast, point).measureWithout(point, chart.isKing);
    }

    public int leastImportantPoint(int coast) throws IndexOutOfBoundsException {
        Coast line = coastAt(coast);
        int best = -1;
        int bestLength = -1;
        for (int point = 0; point < line.count; point++) {
            int length = line.measureWithout(point, chart.isKing);
            if (length > bestLength) {
                best = point;
                bestLength = length;
            }
        }
        return best;
    }

    public int lengthInOtherMetric(int coast, int level)
            throws IndexOutOfBoundsException, IllegalArgumentException {
        Coast line = coastAt(coast);
        requireWithin(level, 0, COARSEST_LEVEL);
        return line.measure(level, !chart.isKing);
    }

    // ---- ledgers

    public int loadedPoints() {
        return chart.loaded;
    }

    public int addedPoints() {
        return chart.added;
    }

    public int removedPoints() {
        return chart.removed;
    }

    public int ledgerGap() {
        return Math.abs(chart.loaded + chart.added - chart.removed - chart.pointTotal());
    }

    // ---- changes

    public int addCoast(int length) throws IllegalArgumentException, IllegalStateException {
        requireText(length);
        single.verb = Verb.SHORE;
        refuse(chart.refusalOf(single));
        boolean isRead = grammar.readLoneCoast(length, single.shape);
        tokens.held = 0;
        return isRead ? change() : -1;
    }

    public int removeCoast(int coast) throws IndexOutOfBoundsException {
        single.set(Verb.REMOVE, coast, 0, 0, 0);
        return change();
    }

    public int fold(int coast, int height)
            throws IndexOutOfBoundsException, IllegalArgumentException, IllegalStateException {
        single.set(Verb.FOLD, coast, 0, height, 0);
        return change();
    }

    public int unfold(int coast) throws IndexOutOfBoundsException, IllegalStateException {
        single.set(Verb.UNFOLD, coast, 0, 0, 0);
        return change();
    }

    public int movePoint(int coast, int point, int x, int y)
            throws IndexOutOfBoundsException, IllegalArgumentException {
        single.set(Verb.MOVE, coast, point, x, y);
        return change();
    }

    public int insertPoint(int coast, int point, int x, int y)
            throws IndexOutOfBoundsException, IllegalArgumentException, IllegalStateException {
        single.set(Verb.INSERT, coast, point, x, y);
        return change();
    }

    public int removePoint(int coast, int point)
            throws IndexOutOfBoundsException, IllegalStateException {
        single.set(Verb.DROP, coast, point, 0, 0);
        return change();
    }

    public int shift(int coast, int dx, int dy)
            throws IndexOutOfBoundsException, IllegalArgumentException, IllegalStateException {
        single.set(Verb.SHIFT, coast, 0, dx, dy);
        return change();
    }

    public int reverse(int coast) throws IndexOutOfBoundsException {
        single.set(Verb.REVERSE, coast, 0, 0, 0);
        return change();
    }

    public boolean setKingMetric(boolean isKing) {
        single.set(Verb.METRIC, 0, 0, 0, 0);
        single.isKing = isKing;
        return change() == 1;
    }

    public int runScript(int length) throws IllegalArgumentException {
        requireText(length);
        int commands = grammar.readScript(length, script);
        tokens.held = 0;
        if (commands < 0) {
            return -1;
        }
        rememberChart();
        for (int i = 0; i < commands; i++) {
            if (chart.refusalOf(script[i]) != NOTHING) {
                return i;
            }
            chart.apply(script[i]);
        }
        return commands;
    }

    // ---- output and history

    public int writeLengths(int coast) throws IndexOutOfBoundsException {
        Coast line = coastAt(coast);
        int enoughSticks = line.isClosed ? 2 : 1;
        output.setLength(0);
        output.append(line.measure(0, chart.isKing));
        for (int level = 1; level <= COARSEST_LEVEL; level++) {
            if (line.sticks(level - 1) <= enoughSticks) {
                break;
            }
            output.append(' ');
            output.append(line.measure(level, chart.isKing));
        }
        return output.length();
    }

    public int outputByte(int index) throws IndexOutOfBoundsException {
        if (index < 0 || index >= output.length()) {
            throw new IndexOutOfBoundsException("no such byte in the output");
        }
        return output.charAt(index);
    }

    public int undoableCount() {
        return pastCount;
    }

    public int undo() throws IllegalStateException {
        if (pastCount == 0) {
            throw new IllegalStateException("nothing to undo");
        }
        pastNext = pastNext == 0 ? UNDO_LIMIT - 1 : pastNext - 1;
        pastCount--;
        chart.copyFrom(past[pastNext]);
        return pastCount;
    }

    public void saveSnapshot() {
        snapshot.copyFrom(chart);
        hasSnapshot = true;
    }

    public int restoreSnapshot() throws IllegalStateException {
        if (!hasSnapshot) {
            throw new IllegalStateException("there is no snapshot");
        }
        chart.copyFrom(snapshot);
        pastCount = 0;
        return chart.count;
    }

    // ---- what the methods of the face share

    private Coast coastAt(int coast) {
        if (!chart.hasCoast(coast)) {
            throw new IndexOutOfBoundsException("no such coastline");
        }
        return chart.coasts[coast];
    }

    private Coast coastWithPoint(int coast, int point) {
        Coast line = coastAt(coast);
        if (point < 0 || point >= line.count) {
            throw new IndexOutOfBoundsException("no such point");
        }
        return line;
    }

    private Coast islandAt(int coast) {
        Coast line = coastAt(coast);
        if (!line.isClosed) {
            throw new IllegalStateException("the coastline is a shore");
        }
        return line;
    }

    private static void requireWithin(int value, int least, int greatest) {
        if (value < least || value > greatest) {
            throw new IllegalArgumentException("an argument is out of range");
        }
    }

    private static void requireStick(Coast line, int level, int stick) {
        requireWithin(level, 0, COARSEST_LEVEL);
        requireWithin(stick, 0, line.sticks(level) - 1);
    }

    private void requireText(int length) {
        requireWithin(length, 0, tokens.held);
    }

    private static void refuse(int refusal) {
        if (refusal == BAD_INDEX) {
            throw new IndexOutOfBoundsException("no such coastline or point");
        }
        if (refusal == BAD_ARGUMENT) {
            throw new IllegalArgumentException("an argument is out of range");
        }
        if (refusal == BAD_STATE) {
            throw new IllegalStateException("the map does not allow this change");
        }
    }

    /** Makes the single command as a change of its own. */
    private int change() {
        refuse(chart.refusalOf(single));
        rememberChart();
        return chart.apply(single);
    }

    private void rememberChart() {
        past[pastNext].copyFrom(chart);
        pastNext = pastNext == UNDO_LIMIT - 1 ? 0 : pastNext + 1;
        if (pastCount < UNDO_LIMIT) {
            pastCount++;
        }
    }

    private static int extent(int[] values, int count) {
        int least = COORDINATE_LIMIT;
        int greatest = -COORDINATE_LIMIT;
        for (int i = 0; i < count; i++) {
            least = Math.min(least, values[i]);
            greatest = Math.max(greatest, values[i]);
        }
        return greatest - least;
    }

    private static boolean isCoordinate(int value) {
        return value >= -COORDINATE_LIMIT && value <= COORDINATE_LIMIT;
    }

    /** A shore, or an island if it is closed. */
    private static final class Coast {
        final int[] xs;
        final int[] ys;
        int count;
        boolean isClosed;

        Coast(int capacity) {
            xs = new int[capacity];
            ys = new int[capacity];
        }

        void copyFrom(Coast other) {
            System.arraycopy(other.xs, 0, xs, 0, other.count);
            System.arraycopy(other.ys, 0, ys, 0, other.count);
            count = other.count;
            isClosed = other.isClosed;
        }

        int neededPoints() {
            return isClosed ? 3 : 2;
        }

        int segments() {
            return isClosed ? count : count - 1;
        }

        int segmentEnd(int segment) {
            return segment + 1 < count ? segment + 1 : 0;
        }

        int distance(int first, int second, boolean isKing) {
            return distanceTo(first, xs[second], ys[second], isKing);
        }

        int distanceTo(int point, int x, int y, boolean isKing) {
            int dx = Math.abs(xs[point] - x);
            int dy = Math.abs(ys[point] - y);
            return isKing ? Math.max(dx, dy) : dx + dy;
        }

        int nearestTo(int x, int y, boolean isKing) {
            int best = 0;
            for (int point = 1; point < count; point++) {
                if (distanceTo(point, x, y, isKing) < distanceTo(best, x, y, isKing)) {
                    best = point;
                }
            }
            return best;
        }

        // Sticks

        int sticks(int level) {
            int wholeSteps = (count - 1) >> level;
            boolean endsThere = !isClosed && (wholeSteps << level) == count - 1;
            return endsThere ? wholeSteps : wholeSteps + 1;
        }

        int stickFrom(int level, int stick) {
            return stick << level;
        }

        int stickTo(int level, int stick) {
            int next = (stick + 1) << level;
            if (next < count) {
                return next;
            }
            return isClosed ? 0 : count - 1;
        }

        int stickSpan(int level, int stick, boolean isKing) {
            return distance(stickFrom(level, stick), stickTo(level, stick), isKing);
        }

        int measure(int level, boolean isKing) {
            int length = 0;
            int sticks = sticks(level);
            for (int stick = 0; stick < sticks; stick++) {
                length += stickSpan(level, stick, isKing);
            }
            return length;
        }

        int gain(int level, boolean isKing) {
            return measure(level, isKing) - measure(level + 1, isKing);
        }

        int coarsestReaching(int length, boolean isKing) {
            for (int level = COARSEST_LEVEL; level >= 0; level--) {
                if (measure(level, isKing) >= length) {
                    return level;
                }
            }
            return -1;
        }

        int measureWithout(int point, boolean isKing) {
            if (count - 1 < neededPoints()) {
                return -1;
            }
            boolean isFirst = !isClosed && point == 0;
            boolean isLast = !isClosed && point == count - 1;
            int before = point == 0 ? count - 1 : point - 1;
            int after = segmentEnd(point);
            int length = measure(0, isKing);
            if (!isFirst) {
                length -= distance(before, point, isKing);
            }
            if (!isLast) {
                length -= distance(point, after, isKing);
            }
            return isFirst || isLast ? length : length + distance(before, after, isKing);
        }

        // Areas

        int signedArea() {
            int sum = 0;
            for (int i = 0; i < segments(); i++) {
                int end = segmentEnd(i);
                sum += xs[i] * ys[end] - xs[end] * ys[i];
            }
            return sum;
        }

        boolean covers(int x, int y) {
            boolean isInside = false;
            for (int i = 0; i < segments(); i++) {
                if (liesOn(i, x, y)) {
                    return true;
                }
                if (rayCrosses(i, x, y)) {
                    isInside = !isInside;
                }
            }
            return isInside;
        }

        boolean coversAll(Coast inner) {
            for (int i = 0; i < inner.count; i++) {
                if (!covers(inner.xs[i], inner.ys[i])) {
                    return false;
                }
            }
            return true;
        }

        /** Positive if the position lies to the left of the segment, 0 if on its line. */
        int side(int segment, int x, int y) {
            int end = segmentEnd(segment);
            return (xs[end] - xs[segment]) * (y - ys[segment])
                    - (ys[end] - ys[segment]) * (x - xs[segment]);
        }

        boolean liesOn(int segment, int x, int y) {
            int end = segmentEnd(segment);
            return side(segment, x, y) == 0
                    && x >= Math.min(xs[segment], xs[end])
                    && x <= Math.max(xs[segment], xs[end])
                    && y >= Math.min(ys[segment], ys[end])
                    && y <= Math.max(ys[segment], ys[end]);
        }

        boolean rayCrosses(int segment, int x, int y) {
            boolean startsAbove = ys[segment] > y;
            boolean endsAbove = ys[segmentEnd(segment)] > y;
            if (startsAbove == endsAbove) {
                return false;
            }
            // The crossing is to the right of the position where the position is to the left
            // of a segment that leads up, or to the right of one that leads down.
            int side = side(segment, x, y);
            return endsAbove ? side > 0 : side < 0;
        }

        // Changes

        void insert(int point, int x, int y) {
            System.arraycopy(xs, point, xs, point + 1, count - point);
            System.arraycopy(ys, point, ys, point + 1, count - point);
            xs[point] = x;
            ys[point] = y;
            count++;
        }

        void drop(int point) {
            System.arraycopy(xs, point + 1, xs, point, count - point - 1);
            System.arraycopy(ys, point + 1, ys, point, count - point - 1);
            count--;
        }

        int pointsAfterUnfold() {
            return (count + 1) >> 1;
        }

        void dropOddPoints() {
            int left = pointsAfterUnfold();
            for (int i = 0; i < left; i++) {
                xs[i] = xs[2 * i];
                ys[i] = ys[2 * i];
            }
            count = left;
        }

        /** Whether the midpoint of two points is displaced along y. */
        boolean isFlat(int first, int second) {
            return Math.abs(xs[first] - xs[second]) >= Math.abs(ys[first] - ys[second]);
        }

        int displacement(int segment, int height) {
            return (segment & 1) == 0 ? height : -height;
        }

        int midpointX(int segment, int height) {
            int end = segmentEnd(segment);
            int middle = (xs[segment] + xs[end]) >> 1;
            return isFlat(segment, end) ? middle : middle + displacement(segment, height);
        }

        int midpointY(int segment, int height) {
            int end = segmentEnd(segment);
            int middle = (ys[segment] + ys[end]) >> 1;
            return isFlat(segment, end) ? middle + displacement(segment, height) : middle;
        }

        int whyNotFold(int height) {
            if (count + segments() > POINT_LIMIT) {
                return 1;
            }
            for (int i = 0; i < segments(); i++) {
                if (!isCoordinate(midpointX(i, height)) || !isCoordinate(midpointY(i, height))) {
                    return 2;
                }
            }
            return 0;
        }

        void insertMidpoints(int height) {
            int newCount = count + segments();
            // From the last segment to the first: a point is read before its place is taken.
            for (int i = count - 1; i >= 0; i--) {
                int x = midpointX(i, height);
                int y = midpointY(i, height);
                xs[2 * i] = xs[i];
                ys[2 * i] = ys[i];
                if (2 * i + 1 < newCount) {
                    xs[2 * i + 1] = x;
                    ys[2 * i + 1] = y;
                }
            }
            count = newCount;
        }

        boolean canSlide(int dx, int dy) {
            for (int i = 0; i < count; i++) {
                if (!isCoordinate(xs[i] + dx) || !isCoordinate(ys[i] + dy)) {
                    return false;
                }
            }
            return true;
        }

        void slide(int dx, int dy) {
            for (int i = 0; i < count; i++) {
                xs[i] += dx;
                ys[i] += dy;
            }
        }

        void turnAround() {
            for (int i = 0, j = count - 1; i < j; i++, j--) {
                int x = xs[i];
                int y = ys[i];
                xs[i] = xs[j];
                ys[i] = ys[j];
                xs[j] = x;
                ys[j] = y;
            }
        }
    }

    /** A map with its ledgers: all that a change changes and an undo brings back. */
    private static final class Chart {
        final Coast[] coasts = new Coast[COAST_LIMIT];
        int count;
        boolean isKing;
        int loaded;
        int added;
        int removed;

        Chart() {
            for (int i = 0; i < COAST_LIMIT; i++) {
                coasts[i] = new Coast(POINT_LIMIT);
            }
        }

        void copyFrom(Chart other) {
            for (int i = 0; i < other.count; i++) {
                coasts[i].copyFrom(other.coasts[i]);
            }
            count = other.count;
            isKing = other.isKing;
            loaded = other.loaded;
            added = other.added;
            removed = other.removed;
        }

        void place(int[] coordinates, boolean isClosed) {
            Coast coast = coasts[count];
            coast.isClosed = isClosed;
            for (int i = 0; i + 1 < coordinates.length; i += 2) {
                coast.insert(coast.count, coordinates[i], coordinates[i + 1]);
            }
            count++;
        }

        void startLedgers() {
            loaded = pointTotal();
            added = 0;
            removed = 0;
        }

        int pointTotal() {
            int total = 0;
            for (int i = 0; i < count; i++) {
                total += coasts[i].count;
            }
            return total;
        }

        boolean hasCoast(int coast) {
            return coast >= 0 && coast < count;
        }

        boolean surrounds(int island, int coast) {
            return island != coast && coasts[island].isClosed
                    && coasts[island].coversAll(coasts[coast]);
        }

        /** Why the command cannot be executed, or NOTHING; it changes nothing. */
        int refusalOf(Command command) {
            Verb verb = command.verb;
            if (verb.isCoast) {
                return count < COAST_LIMIT ? NOTHING : BAD_STATE;
            }
            if (verb == Verb.METRIC) {
                return NOTHING;
            }
            if (!hasCoast(command.coast)) {
                return BAD_INDEX;
            }
            Coast coast = coasts[command.coast];
            int points = verb == Verb.INSERT ? coast.count + 1 : coast.count;
            if (verb.hasPoint && (command.point < 0 || command.point >= points)) {
                return BAD_INDEX;
            }
            if (!verb.allows(command.first) || !verb.allows(command.second)) {
                return BAD_ARGUMENT;
            }
            return allowsChange(coast, command) ? NOTHING : BAD_STATE;
        }

        boolean allowsChange(Coast coast, Command command) {
            switch (command.verb) {
                case FOLD:
                    return coast.whyNotFold(command.first) == 0;
                case UNFOLD:
                    return coast.pointsAfterUnfold() >= coast.neededPoints();
                case INSERT:
                    return coast.count < POINT_LIMIT;
                case DROP:
                    return coast.count > coast.neededPoints();
                case SHIFT:
                    return coast.canSlide(command.first, command.second);
                default:
                    return true;
            }
        }

        /** Executes a command that is not refused; returns what its method of the face does. */
        int apply(Command command) {
            switch (command.verb) {
                case SHORE:
                case ISLAND:
                    return add(command.shape);
                case METRIC:
                    int before = isKing ? 1 : 0;
                    isKing = command.isKing;
                    return before;
                case REMOVE:
                    return remove(command.coast);
                case MOVE:
                    return move(coasts[command.coast], command);
                default:
                    Coast coast = coasts[command.coast];
                    int pointsBefore = coast.count;
                    reshape(coast, command);
                    added += Math.max(0, coast.count - pointsBefore);
                    removed += Math.max(0, pointsBefore - coast.count);
                    return coast.count;
            }
        }

        int add(Coast shape) {
            coasts[count].copyFrom(shape);
            added += shape.count;
            count++;
            return count - 1;
        }

        int remove(int coast) {
            Coast gone = coasts[coast];
            for (int i = coast; i + 1 < count; i++) {
                coasts[i] = coasts[i + 1];
            }
            // Its rows serve the next coastline that is added.
            coasts[count - 1] = gone;
            count--;
            removed += gone.count;
            return gone.count;
        }

        int move(Coast coast, Command command) {
            int point = command.point;
            int way = coast.distanceTo(point, command.first, command.second, isKing);
            coast.xs[point] = command.first;
            coast.ys[point] = command.second;
            return way;
        }

        void reshape(Coast coast, Command command) {
            switch (command.verb) {
                case FOLD:
                    coast.insertMidpoints(command.first);
                    break;
                case UNFOLD:
                    coast.dropOddPoints();
                    break;
                case INSERT:
                    coast.insert(command.point, command.first, command.second);
                    break;
                case DROP:
                    coast.drop(command.point);
                    break;
                case SHIFT:
                    coast.slide(command.first, command.second);
                    break;
                case REVERSE:
                    coast.turnAround();
                    break;
                default:
                    break;
            }
        }
    }

    /** The word that a command begins with, and what has to follow it. */
    private enum Verb {
        SHORE("shore", true, false, 0, 0),
        ISLAND("island", true, false, 0, 0),
        FOLD("fold", false, false, 1, HEIGHT_LIMIT),
        UNFOLD("unfold", false, false, 0, 0),
        MOVE("move", false, true, 2, COORDINATE_LIMIT),
        INSERT("insert", false, true, 2, COORDINATE_LIMIT),
        DROP("drop", false, true, 0, 0),
        SHIFT("shift", false, false, 2, SHIFT_LIMIT),
        REVERSE("reverse", false, false, 0, 0),
        REMOVE("remove", false, false, 0, 0),
        METRIC("metric", false, false, 0, 0);

        private static final Verb[] ALL = values();

        final String word;
        final boolean isCoast;
        final boolean hasPoint;
        final int integers;
        final int limit;

        Verb(String word, boolean isCoast, boolean hasPoint, int integers, int limit) {
            this.word = word;
            this.isCoast = isCoast;
            this.hasPoint = hasPoint;
            this.integers = integers;
            this.limit = limit;
        }

        boolean allows(int integer) {
            return integer >= -limit && integer <= limit;
        }
    }

    /** A change, as a script or a call of the face asks for it. */
    private static final class Command {
        Verb verb = Verb.METRIC;
        int coast;
        int point;
        int first;
        int second;
        boolean isKing;
        final Coast shape = new Coast(TEXT_POINT_LIMIT);

        void set(Verb verb, int coast, int point, int first, int second) {
            this.verb = verb;
            this.coast = coast;
            this.point = point;
            this.first = first;
            this.second = second;
        }
    }

    /** The input buffer, and the token of it that is read. */
    private static final class Tokens {
        static final int END = 0;
        static final int WORD = 1;
        static final int NUMBER = 2;
        static final int SEMICOLON = 3;
        static final int COMMA = 4;
        static final int MINUS = 5;
        static final int INVALID = 6;

        // Far above every range of the grammars: a number of any length is compared with them.
        static final int VALUE_LIMIT = 1000000;

        final byte[] bytes = new byte[TEXT_LIMIT];
        int held;
        int length;
        int kind;
        int start;
        int next;

        void append(int fourBytes) {
            for (int bits = 24; bits >= 0 && held < TEXT_LIMIT; bits -= 8) {
                bytes[held] = (byte) (fourBytes >> bits);
                held++;
            }
        }

        void begin(int textLength) {
            length = textLength;
            next = 0;
            advance();
        }

        void advance() {
            while (next < length && (bytes[next] == ' ' || bytes[next] == '\n')) {
                next++;
            }
            start = next;
            if (next >= length) {
                kind = END;
            } else if (bytes[next] >= 'a' && bytes[next] <= 'z') {
                kind = WORD;
                next = endOfRun('a', 'z');
            } else if (bytes[next] >= '0' && bytes[next] <= '9') {
                kind = NUMBER;
                next = endOfRun('0', '9');
            } else {
                kind = kindOfSign(bytes[next]);
                next++;
            }
        }

        int endOfRun(char least, char greatest) {
            int end = start;
            while (end < length && bytes[end] >= least && bytes[end] <= greatest) {
                end++;
            }
            return end;
        }

        /** The value of the number that is read; a greater one than VALUE_LIMIT is not exact. */
        int value() {
            int value = 0;
            for (int i = start; i < next && value <= VALUE_LIMIT; i++) {
                value = 10 * value + bytes[i] - '0';
            }
            return value;
        }

        static int kindOfSign(byte sign) {
            if (sign == ';') {
                return SEMICOLON;
            }
            if (sign == ',') {
                return COMMA;
            }
            return sign == '-' ? MINUS : INVALID;
        }

        boolean isWord(String word) {
            if (kind != WORD || next - start != word.length()) {
                return false;
            }
            for (int i = 0; i < word.length(); i++) {
                if (bytes[start + i] != word.charAt(i)) {
                    return false;
                }
            }
            return true;
        }
    }

    /** Reads maps, coasts and scripts; keeps the error of the latest text. */
    private static final class Grammar {
        final Tokens tokens;
        int code;
        int offset = -1;
        int integer;
        boolean isKing;

        Grammar(Tokens tokens) {
            this.tokens = tokens;
        }

        boolean readMap(int length, Chart target) {
            begin(length);
            if (!takeWord("map") || !readMetric() || !take(Tokens.SEMICOLON)) {
                return false;
            }
            target.isKing = isKing;
            target.count = 0;
            for (int i = 0; i < COAST_LIMIT; i++) {
                if (tokens.kind == Tokens.END) {
                    return true;
                }
                if (!readCoast(target.coasts[i]) || !take(Tokens.SEMICOLON)) {
                    return false;
                }
                target.count++;
            }
            if (tokens.kind == Tokens.END) {
                return true;
            }
            Verb verb = verbHere();
            return fail(verb != null && verb.isCoast ? TOO_MANY : NOT_ALLOWED);
        }

        boolean readLoneCoast(int length, Coast target) {
            begin(length);
            return readCoast(target) && take(Tokens.END);
        }

        /** Returns the number of commands; -1 if there is an error. */
        int readScript(int length, Command[] target) {
            begin(length);
            for (int i = 0; i < target.length; i++) {
                if (tokens.kind == Tokens.END) {
                    return i;
                }
                if (!readCommand(target[i]) || !take(Tokens.SEMICOLON)) {
                    return -1;
                }
            }
            if (tokens.kind == Tokens.END) {
                return target.length;
            }
            fail(verbHere() == null ? NOT_ALLOWED : TOO_MANY);
            return -1;
        }

        private void begin(int length) {
            code = 0;
            offset = -1;
            tokens.begin(length);
        }

        private boolean fail(int errorCode) {
            code = errorCode;
            offset = tokens.start;
            return false;
        }

        private boolean take(int kind) {
            if (tokens.kind != kind) {
                return fail(NOT_ALLOWED);
            }
            tokens.advance();
            return true;
        }

        private boolean takeWord(String word) {
            if (!tokens.isWord(word)) {
                return fail(NOT_ALLOWED);
            }
            tokens.advance();
            return true;
        }

        private Verb verbHere() {
            for (int i = 0; i < Verb.ALL.length; i++) {
                if (tokens.isWord(Verb.ALL[i].word)) {
                    return Verb.ALL[i];
                }
            }
            return null;
        }

        private boolean readMetric() {
            isKing = tokens.isWord("king");
            return takeWord(isKing ? "king" : "taxicab");
        }

        /** Reads an integer, or a number where nothing below 0 is in range. */
        private boolean readInteger(int least, int greatest) {
            boolean isNegative = least < 0 && tokens.kind == Tokens.MINUS;
            if (isNegative) {
                tokens.advance();
            }
            if (tokens.kind != Tokens.NUMBER) {
                return fail(NOT_ALLOWED);
            }
            integer = isNegative ? -tokens.value() : tokens.value();
            if (integer < least || integer > greatest) {
                return fail(OUT_OF_RANGE);
            }
            tokens.advance();
            return true;
        }

        private boolean readCoast(Coast target) {
            target.isClosed = tokens.isWord("island");
            target.count = 0;
            if (!takeWord(target.isClosed ? "island" : "shore")) {
                return false;
            }
            for (int i = 0; i < TEXT_POINT_LIMIT; i++) {
                if (!readInteger(-COORDINATE_LIMIT, COORDINATE_LIMIT)) {
                    return false;
                }
                int x = integer;
                if (!readInteger(-COORDINATE_LIMIT, COORDINATE_LIMIT)) {
                    return false;
                }
                target.insert(target.count, x, integer);
                if (tokens.kind != Tokens.COMMA) {
                    return target.count >= target.neededPoints() || fail(NOT_ALLOWED);
                }
                tokens.advance();
            }
            return refusePoint();
        }

        /** Always fails: the token begins one point more than a coast in a text may have. */
        private boolean refusePoint() {
            if (tokens.kind == Tokens.MINUS) {
                return fail(TOO_MANY);
            }
            if (tokens.kind != Tokens.NUMBER) {
                return fail(NOT_ALLOWED);
            }
            return fail(tokens.value() > COORDINATE_LIMIT ? OUT_OF_RANGE : TOO_MANY);
        }

        private boolean readCommand(Command target) {
            Verb verb = verbHere();
            if (verb == null) {
                return fail(NOT_ALLOWED);
            }
            target.set(verb, 0, 0, 0, 0);
            if (verb.isCoast) {
                return readCoast(target.shape);
            }
            tokens.advance();
            if (verb == Verb.METRIC) {
                boolean isRead = readMetric();
                target.isKing = isKing;
                return isRead;
            }
            return readArguments(target);
        }

        private boolean readArguments(Command target) {
            Verb verb = target.verb;
            if (!readInteger(0, COAST_LIMIT - 1)) {
                return false;
            }
            target.coast = integer;
            if (verb.hasPoint) {
                if (!readInteger(0, POINT_LIMIT - 1)) {
                    return false;
                }
                target.point = integer;
            }
            if (verb.integers > 0) {
                if (!readInteger(-verb.limit, verb.limit)) {
                    return false;
                }
                target.first = integer;
            }
            if (verb.integers > 1) {
                if (!readInteger(-verb.limit, verb.limit)) {
                    return false;
                }
                target.second = integer;
            }
            return true;
        }
    }
}
