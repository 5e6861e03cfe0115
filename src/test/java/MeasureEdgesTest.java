import java.util.ArrayList;
import java.util.List;

/** The sentences on points, sticks, islands and would-be changes that name a boundary. */
public final class MeasureEdgesTest {
    private static final int[] NO_LEVELS = {-1, 8, 31, 32, 33, Integer.MIN_VALUE,
        Integer.MAX_VALUE};
    private static final int[] NO_COORDINATES = {1001, -1001, Integer.MAX_VALUE,
        Integer.MIN_VALUE};

    public static void main(String[] args) {
        noneToSixCoastlines();
        coordinatesAtTheLimits();
        equalPoints();
        fewestAndMostPoints();
        distances();
        nearestOfEquallyNear();
        nearestAtTheLimits();
        sticksOfEveryShore();
        sticksOfEveryIsland();
        oneStickOfLengthZero();
        levelsFrom0To7();
        levelsFrom0To6();
        longestOfEquallyLong();
        gainsAreNeverNegative();
        smallestLevelOfEqualGains();
        lengthsFromZero();
        coarsestExactLevels();
        totalsWithoutCoastlines();
        ratiosToZero();
        meansInFloat();
        areasBelowAndAtZero();
        closingSegment();
        positionsOnSegments();
        raysThroughPoints();
        intersectionsToTheRight();
        containsAtTheLimits();
        enclosesItself();
        smallestOfEqualAreas();
        noneToFiveIslandsAround();
        boxes();
        obstaclesAtTheLimits();
        firstObstacleFirst();
        lengthsAfterNoFold();
        lengthsWithoutNeededPoints();
        leastImportantOfEqualOnes();
        otherMetric();
        lengthsUnderTheMetric();
        allOfAFullCoastline();
        Check.finish();
    }

    private static String shore(int... numbers) {
        return text("shore ", numbers);
    }

    private static String island(int... numbers) {
        return text("island ", numbers);
    }

    private static String text(String kind, int... numbers) {
        StringBuilder text = new StringBuilder(kind);
        for (int i = 0; i + 1 < numbers.length; i += 2) {
            text.append(i == 0 ? "" : ",").append(numbers[i]).append(' ').append(numbers[i + 1]);
        }
        return text.toString();
    }

    private static Ruler taxicab(String... coasts) {
        return Check.with("map taxicab;" + String.join(";", coasts) + ";");
    }

    private static Ruler king(String... coasts) {
        return Check.with("map king;" + String.join(";", coasts) + ";");
    }

    /** A coastline of this many points: 0 0, 1 0, 2 0 and so on. */
    private static Ruler row(String kind, int points) {
        Ruler r = taxicab(Check.row(kind, Math.min(points, 33)));
        Check.grow(r, 0, points);
        return r;
    }

    // ---- coastlines and points

    /** "A map holds 0 to 6 coastlines. A coastline is identified by its index, from 0." */
    private static void noneToSixCoastlines() {
        Ruler none = Check.with("map king;");
        Check.same("no coastline", none.coastCount(), 0);
        Ruler six = king("shore 0 0,1 1", "shore 0 0,2 2", "shore 0 0,3 3", "shore 0 0,4 4",
                "shore 0 0,5 5", "island 0 0,6 6,0 0");
        Check.same("six coastlines", six.coastCount(), 6);
        for (int coast = 0; coast < 6; coast++) {
            Check.same("of coast " + coast, six.pointX(coast, 1), coast + 1);
            Check.same("coast " + coast, six.isIsland(coast), coast == 5);
            Check.same("points of " + coast, six.pointCount(coast), coast == 5 ? 3 : 2);
        }
        for (int coast : new int[] {-1, 6, Integer.MIN_VALUE, Integer.MAX_VALUE}) {
            Check.refuses("coast " + coast, six, Check.INDEX, x -> x.pointCount(coast));
        }
        for (int coast : new int[] {-1, 0, 1, 5}) {
            Check.refuses("coast " + coast, none, Check.INDEX, x -> x.pointCount(coast));
            Check.refuses("coast " + coast, none, Check.INDEX, x -> x.isIsland(coast));
        }
        six.removeCoast(5);
        Check.refuses("the removed one", six, Check.INDEX, x -> x.pointCount(5));
        Check.same("the last one", six.pointX(4, 1), 5);
    }

    /** "integer coordinates from -1000 to 1000". */
    private static void coordinatesAtTheLimits() {
        Ruler r = taxicab(shore(-1000, 1000, 1000, -1000), island(0, 0, 1, 1, 2, 2));
        Check.same("the limits", Check.points(r, 0), "shore -1000 1000,1000 -1000");
        r.movePoint(0, 0, 1000, 1000);
        r.insertPoint(0, 2, -1000, -1000);
        Check.same("the limits", Check.points(r, 0), "shore 1000 1000,1000 -1000,-1000 -1000");
        for (int n : NO_COORDINATES) {
            Check.refuses("move x", r, Check.ARGUMENT, x -> x.movePoint(1, 2, n, 0));
            Check.refuses("move y", r, Check.ARGUMENT, x -> x.movePoint(1, 2, 0, n));
            Check.refuses("insert x", r, Check.ARGUMENT, x -> x.insertPoint(1, 3, n, 0));
            Check.refuses("insert y", r, Check.ARGUMENT, x -> x.insertPoint(1, 3, 0, n));
        }
    }

    /** "Consecutive points may be equal." */
    private static void equalPoints() {
        Ruler r = taxicab(shore(7, 7, 7, 7), island(5, 5, 5, 5, 5, 5));
        Check.same("equal points", Check.map(r), "map taxicab;shore 7 7,7 7;island 5 5,5 5,5 5;");
        Check.same("another equal one", r.insertPoint(0, 1, 7, 7), 3);
        Check.same("another equal one", r.insertPoint(1, 0, 5, 5), 4);
        r.insertPoint(0, 0, 8, 8);
        Check.same("moved onto the next", r.movePoint(0, 0, 7, 7), 2);
        for (int level = 0; level <= 7; level++) {
            Check.same("their length", r.lengthAt(0, level) + r.lengthAt(1, level), 0);
        }
        Check.same("an equal coast", Check.add(r, "shore 0 0,0 0"), 2);
        Check.same("folded", r.fold(2, 3), 3);
        Check.same("folded", Check.points(r, 2), "shore 0 0,0 3,0 0");
    }

    /** "A shore has 2 to 129 points. An island has 3 to 129 points". */
    private static void fewestAndMostPoints() {
        for (String kind : new String[] {"shore", "island"}) {
            int fewest = kind.equals("shore") ? 2 : 3;
            Ruler r = row(kind, fewest);
            Check.same("the fewest", r.pointCount(0), fewest);
            Check.refuses("one fewer", r, Check.STATE, x -> x.removePoint(0, 0));
            Check.refuses("point " + fewest, r, Check.INDEX, x -> x.pointX(0, fewest));
            Ruler full = row(kind, 129);
            Check.same("the most", full.pointCount(0), 129);
            Check.same("the last point", full.pointX(0, 128), 128);
            Check.same("its y", full.pointY(0, 128), 0);
            Check.refuses("one more", full, Check.STATE, x -> x.insertPoint(0, 129, 0, 0));
            for (int point : new int[] {-1, 129, Integer.MAX_VALUE, Integer.MIN_VALUE}) {
                Check.refuses("pointX", full, Check.INDEX, x -> x.pointX(0, point));
                Check.refuses("pointY", full, Check.INDEX, x -> x.pointY(0, point));
            }
        }
    }

    /** "the sum of the absolute differences"; "the greater of the two absolute differences". */
    private static void distances() {
        int[][] points = {{0, 0}, {3, 0}, {0, -4}, {3, 4}, {4, -3}, {-5, 5}, {1000, 1000},
            {-1000, -1000}, {1000, -1000}, {-999, 1000}, {0, 0}};
        int[] numbers = new int[2 * points.length];
        for (int i = 0; i < points.length; i++) {
            numbers[2 * i] = points[i][0];
            numbers[2 * i + 1] = points[i][1];
        }
        Ruler sums = taxicab(shore(numbers));
        Ruler greater = king(shore(numbers));
        for (int i = 0; i < points.length; i++) {
            for (int j = 0; j < points.length; j++) {
                int dx = Math.abs(points[i][0] - points[j][0]);
                int dy = Math.abs(points[i][1] - points[j][1]);
                Check.same("taxicab " + i + " " + j, sums.pointDistance(0, i, j), dx + dy);
                Check.same("king " + i + " " + j, greater.pointDistance(0, i, j),
                        Math.max(dx, dy));
            }
        }
        Check.same("the greatest", sums.pointDistance(0, 6, 7), 4000);
        Check.same("the greatest", greater.pointDistance(0, 6, 7), 2000);
        for (int point : new int[] {-1, 11, Integer.MAX_VALUE, Integer.MIN_VALUE}) {
            Check.refuses("first", sums, Check.INDEX, x -> x.pointDistance(0, point, 0));
            Check.refuses("second", sums, Check.INDEX, x -> x.pointDistance(0, 0, point));
            Check.refuses("both", sums, Check.INDEX, x -> x.pointDistance(0, point, point));
        }
        Check.refuses("coast 1", sums, Check.INDEX, x -> x.pointDistance(1, 0, 0));
    }

    /** "the smallest index if several points are equally near". */
    private static void nearestOfEquallyNear() {
        Ruler r = taxicab(shore(9, 9, 2, 0, 0, 2, -2, 0, 0, -2, 1, 1, 2, 0));
        Check.same("of five", r.nearestPoint(0, 0, 0), 1);
        Check.same("a point itself", r.nearestPoint(0, 2, 0), 1);
        Check.same("another", r.nearestPoint(0, 1, 1), 5);
        r.setKingMetric(true);
        Check.same("king", r.nearestPoint(0, 0, 0), 5);
        Check.same("king, of two", r.nearestPoint(0, -1, 1), 2);
        r.movePoint(0, 0, 0, 0);
        Check.same("the first of all", r.nearestPoint(0, 0, 0), 0);
        r.movePoint(0, 6, -9, 9);
        Check.same("the last of all", r.nearestPoint(0, -9, 8), 6);
        Ruler same = king(shore(5, 5, 5, 5, 5, 5));
        Check.same("all equal", same.nearestPoint(0, -1000, 1000), 0);
        Ruler full = row("shore", 129);
        Check.same("the 129th", full.nearestPoint(0, 1000, 1000), 128);
        Check.same("between", full.nearestPoint(0, 77, -1000), 77);
    }

    /** "-1000 to 1000"; "if x or y is out of range". */
    private static void nearestAtTheLimits() {
        Ruler r = taxicab(shore(-1000, -1000, 1000, 1000, -1000, 1000, 1000, -1000));
        Check.same("a corner", r.nearestPoint(0, -1000, -1000), 0);
        Check.same("a corner", r.nearestPoint(0, 1000, 1000), 1);
        Check.same("a corner", r.nearestPoint(0, -1000, 1000), 2);
        Check.same("a corner", r.nearestPoint(0, 1000, -1000), 3);
        for (int n : NO_COORDINATES) {
            Check.refuses("x " + n, r, Check.ARGUMENT, x -> x.nearestPoint(0, n, 0));
            Check.refuses("y " + n, r, Check.ARGUMENT, x -> x.nearestPoint(0, 0, n));
            Check.refuses("coast and x", r, Check.INDEX, x -> x.nearestPoint(1, n, 0));
            Check.refuses("coast and y", r, Check.INDEX, x -> x.nearestPoint(-1, 0, n));
        }
    }

    // ---- sticks

    /** The points that the sticks of a level visit, as the document says it. */
    private static List<Integer> visited(boolean isIsland, int points, int level) {
        List<Integer> visited = new ArrayList<>();
        for (int i = 0; i < points; i++) {
            if (i % (1 << level) == 0) {
                visited.add(i);
            }
        }
        if (isIsland) {
            visited.add(0);
        } else if (visited.get(visited.size() - 1) != points - 1) {
            visited.add(points - 1);
        }
        return visited;
    }

    /** On a row of points, the last sticks of all levels, and that none is behind them. */
    private static void sticksOfARow(String kind, int points) {
        Ruler r = row(kind, points);
        for (int level = 0; level <= 7; level++) {
            String what = kind + " of " + points + " at " + level + ": ";
            List<Integer> due = visited(kind.equals("island"), points, level);
            int last = due.size() - 2;
            Check.same(what + "sticks", r.stickCount(0, level), last + 1);
            Check.same(what + "start", r.stickStart(0, level, last), due.get(last));
            Check.same(what + "length", r.stickLength(0, level, last),
                    Math.abs(due.get(last + 1) - due.get(last)));
            Check.same(what + "first start", r.stickStart(0, level, 0), 0);
            Check.same(what + "all", r.lengthAt(0, level),
                    due.get(last + 1) == 0 ? 2 * due.get(last) : points - 1);
            if (points < 6 || points > 126 || points % 16 < 2) {
                int next = last + 1;
                int at = level;
                Check.refuses(what + "next", r, Check.ARGUMENT, x -> x.stickStart(0, at, next));
                Check.refuses(what + "next", r, Check.ARGUMENT, x -> x.stickLength(0, at, next));
                Check.refuses(what + "-1", r, Check.ARGUMENT, x -> x.stickStart(0, at, -1));
                Check.refuses(what + "-1", r, Check.ARGUMENT, x -> x.stickLength(0, at, -1));
            }
        }
    }

    /** "On a shore they finally visit the last point, unless it was visited already." */
    private static void sticksOfEveryShore() {
        for (int points = 2; points <= 129; points++) {
            sticksOfARow("shore", points);
        }
    }

    /** "On an island they finally return to point 0". */
    private static void sticksOfEveryIsland() {
        for (int points = 3; points <= 129; points++) {
            sticksOfARow("island", points);
        }
    }

    /** "if no other point is visited, there is one stick of length 0 from point 0 to point 0". */
    private static void oneStickOfLengthZero() {
        for (int[] each : new int[][] {{3, 2}, {4, 2}, {8, 3}, {16, 4}, {32, 5}, {64, 6},
            {128, 7}}) {
            Ruler r = row("island", each[0]);
            for (int level = each[1]; level <= 7; level++) {
                Check.same("one stick", r.stickCount(0, level), 1);
                Check.same("from point 0", r.stickStart(0, level, 0), 0);
                Check.same("of length 0", r.stickLength(0, level, 0), 0);
                Check.same("the longest one", r.longestStick(0, level), 0);
                Check.same("the length", r.lengthAt(0, level), 0);
                Check.same("the mean", r.meanStickLength(0, level), 0.0f);
            }
            Check.same("two before", r.stickCount(0, each[1] - 1), 2);
            r.insertPoint(0, each[0], 0, 9);
            Check.same("one point more", r.stickCount(0, each[1]), each[0] == 3 ? 1 : 2);
        }
        Check.same("a shore's stick leads on", row("shore", 128).stickLength(0, 7, 0), 127);
        Check.same("a shore of 2", row("shore", 2).stickLength(0, 7, 0), 1);
    }

    /** "0 to 7", in every method with a level. */
    private static void levelsFrom0To7() {
        Ruler r = new Ruler();
        Check.same("level 0", r.lengthAt(0, 0) + " " + r.stickCount(0, 0) + " "
                + r.stickStart(0, 0, 3) + " " + r.stickLength(0, 0, 3) + " " + r.longestStick(0, 0)
                + " " + r.totalLength(0) + " " + r.longestCoast(0) + " " + r.meanStickLength(0, 0)
                + " " + r.lengthAfterFold(0, 0, 0) + " " + r.lengthInOtherMetric(0, 0),
                "31 4 3 8 2 151 1 7.75 31 21");
        Check.same("level 7", r.lengthAt(0, 7) + " " + r.stickCount(0, 7) + " "
                + r.stickStart(0, 7, 0) + " " + r.stickLength(0, 7, 0) + " " + r.longestStick(0, 7)
                + " " + r.totalLength(7) + " " + r.longestCoast(7) + " " + r.meanStickLength(0, 7)
                + " " + r.lengthAfterFold(0, 0, 7) + " " + r.lengthInOtherMetric(0, 7),
                "25 1 0 25 0 25 0 25.0 25 20");
        for (int level : NO_LEVELS) {
            Check.Call[] calls = {x -> x.lengthAt(0, level), x -> x.stickCount(0, level),
                x -> x.stickStart(0, level, 0), x -> x.stickLength(0, level, 0),
                x -> x.longestStick(0, level), x -> x.totalLength(level),
                x -> x.longestCoast(level), x -> x.meanStickLength(0, level),
                x -> x.lengthAfterFold(0, 0, level), x -> x.lengthInOtherMetric(0, level),
                x -> x.stickStart(0, level, -1), x -> x.stickLength(0, level, 99)};
            for (int i = 0; i < calls.length; i++) {
                Check.refuses("call " + i + " at level " + level, r, Check.ARGUMENT, calls[i]);
            }
            Check.Call[] ofNoCoast = {x -> x.lengthAt(3, level), x -> x.stickCount(-1, level),
                x -> x.stickStart(3, level, 0), x -> x.stickLength(-1, level, 0),
                x -> x.longestStick(3, level), x -> x.meanStickLength(-1, level),
                x -> x.lengthAfterFold(3, 51, level), x -> x.lengthInOtherMetric(-1, level)};
            for (int i = 0; i < ofNoCoast.length; i++) {
                Check.refuses("call " + i + " of no coast", r, Check.INDEX, ofNoCoast[i]);
            }
        }
        Check.refuses("stick of no coast", r, Check.INDEX, x -> x.stickStart(3, 0, -1));
        Check.refuses("stick of no coast", r, Check.INDEX, x -> x.stickLength(3, 0, 99));
        for (int stick : new int[] {-1, 4, Integer.MIN_VALUE, Integer.MAX_VALUE}) {
            Check.refuses("stick " + stick, r, Check.ARGUMENT, x -> x.stickStart(0, 0, stick));
            Check.refuses("stick " + stick, r, Check.ARGUMENT, x -> x.stickLength(0, 0, stick));
        }
    }

    /** "0 to 6", in the methods that look at the next coarser level too. */
    private static void levelsFrom0To6() {
        Ruler r = row("island", 129);
        r.movePoint(0, 64, 500, 0);
        r.movePoint(0, 1, 0, 7);
        Check.same("gain at 0", r.lengthGain(0, 0), 16);
        Check.same("gain at 6", r.lengthGain(0, 6), 744);
        Check.same("ratio at 6", r.refinementRatio(0, 6), 1000.0 / 256.0);
        Check.same("ratio at 0", r.refinementRatio(0, 0), 1140.0 / 1124.0);
        Ruler small = new Ruler();
        for (int level : new int[] {-1, 7, 8, Integer.MIN_VALUE, Integer.MAX_VALUE}) {
            Check.refuses("gain", small, Check.ARGUMENT, x -> x.lengthGain(0, level));
            Check.refuses("ratio", small, Check.ARGUMENT, x -> x.refinementRatio(0, level));
            Check.refuses("gain", small, Check.INDEX, x -> x.lengthGain(3, level));
            Check.refuses("ratio", small, Check.INDEX, x -> x.refinementRatio(-1, level));
        }
    }

    /** "the smallest number if several sticks are equally long". */
    private static void longestOfEquallyLong() {
        Ruler r = taxicab(shore(0, 0, 5, 0, 5, 9, 5, 0, 0, 0), island(0, 0, 9, 0, 9, 0),
                island(0, 0, 1, 0, 10, 0), shore(3, 3, 3, 3, 3, 3), shore(0, 0, 1, 0, 3, 0, 6, 0));
        Check.same("the second and third", r.longestStick(0, 0), 1);
        Check.same("the first and third", r.longestStick(1, 0), 0);
        Check.same("the closing one", r.longestStick(2, 0), 2);
        Check.same("the last of a level", r.longestStick(2, 1), 0);
        Check.same("none has a length", r.longestStick(3, 0), 0);
        Check.same("length 1 after 0", king(shore(0, 0, 0, 0, 1, 1)).longestStick(0, 0), 1);
        Check.same("the last one", r.longestStick(4, 0), 2);
        Ruler full = row("shore", 129);
        Check.same("of 128", full.longestStick(0, 0), 0);
        full.movePoint(0, 128, 129, 0);
        Check.same("the 128th", full.longestStick(0, 0), 127);
        Check.same("the second of level 6", full.longestStick(0, 6), 1);
    }

    /** "the length at this level minus the length at level + 1, which is never negative". */
    private static void gainsAreNeverNegative() {
        for (int shape = 0; shape < 40; shape++) {
            int[] numbers = new int[2 * (3 + shape % 9)];
            for (int i = 0; i < numbers.length; i++) {
                numbers[i] = (i * i * 37 + shape * 101 + i * 13) % 2001 - 1000;
            }
            Ruler r = shape % 2 == 0 ? taxicab(shore(numbers), island(numbers))
                    : king(shore(numbers), island(numbers));
            for (int level = 0; level <= 6; level++) {
                for (int coast = 0; coast < 2; coast++) {
                    int gain = r.lengthGain(coast, level);
                    Check.same("never negative", gain >= 0, true);
                    Check.same("the gain", gain,
                            r.lengthAt(coast, level) - r.lengthAt(coast, level + 1));
                }
            }
        }
    }

    /** "the smallest level if several gains are equal". */
    private static void smallestLevelOfEqualGains() {
        Ruler r = taxicab(shore(0, 0, 0, 0), shore(0, 0, 3, 0, 0, 0, 3, 0, 6, 0),
                island(0, 0, 0, 0, 5, 0, 0, 0, 5, 0, 0, 0));
        Check.same("no gain at all", r.levelOfGreatestGain(0), 0);
        Check.same("a gain at 0", r.lengthGain(1, 0) > 0, true);
        Check.same("its level", r.levelOfGreatestGain(1), 0);
        // The lengths are 20, 10, 10 and 0.
        Ruler equal = taxicab(island(0, 0, 5, 0, 0, 0, 0, 0, 5, 0));
        Check.same("gains", equal.lengthGain(0, 0) + " " + equal.lengthGain(0, 1) + " "
                + equal.lengthGain(0, 2), "10 0 10");
        Check.same("the smaller of two", equal.levelOfGreatestGain(0), 0);
        equal.movePoint(0, 4, 6, 0);
        Check.same("the greater gain", equal.levelOfGreatestGain(0), 2);
        equal.movePoint(0, 4, 4, 0);
        Check.same("the greater gain", equal.levelOfGreatestGain(0), 0);
        Ruler small = king(shore(0, 0, 0, 0, 1, 1, 1, 1, 1, 0));
        Check.same("gains", small.lengthGain(0, 0) + " " + small.lengthGain(0, 1), "0 1");
        Check.same("a gain of 1 after none", small.levelOfGreatestGain(0), 1);
        Ruler last = row("island", 129);
        for (int i = 1; i < 129; i++) {
            last.movePoint(0, i, 0, 0);
        }
        last.movePoint(0, 128, 9, 9);
        Check.same("what level 7 finds is no gain", last.levelOfGreatestGain(0), 0);
        last.movePoint(0, 128, 0, 0);
        last.movePoint(0, 64, 0, 1);
        Check.same("level 6", last.levelOfGreatestGain(0), 6);
        Check.refuses("coast 1", last, Check.INDEX, x -> x.levelOfGreatestGain(1));
        Check.refuses("coast -1", last, Check.INDEX, x -> x.levelOfGreatestGain(-1));
    }

    /** "length: 0 or more"; "at least length; -1 if there is no such level". */
    private static void lengthsFromZero() {
        Ruler r = new Ruler();
        Check.same("0", r.coarsestLevelFor(0, 0), 7);
        Check.same("25, the length at 1 to 7", r.coarsestLevelFor(0, 25), 7);
        Check.same("26", r.coarsestLevelFor(0, 26), 0);
        Check.same("31, the length at 0", r.coarsestLevelFor(0, 31), 0);
        Check.same("32", r.coarsestLevelFor(0, 32), -1);
        Check.same("2^31 - 1", r.coarsestLevelFor(0, Integer.MAX_VALUE), -1);
        Check.same("80, the length at 0 and 1", r.coarsestLevelFor(1, 80), 1);
        Check.same("81", r.coarsestLevelFor(1, 81), -1);
        Check.same("1", r.coarsestLevelFor(1, 1), 1);
        Check.same("0 on an island", r.coarsestLevelFor(1, 0), 7);
        Ruler flat = king(shore(4, 4, 4, 4));
        Check.same("0 of no length", flat.coarsestLevelFor(0, 0), 7);
        Check.same("1 of no length", flat.coarsestLevelFor(0, 1), -1);
        for (int length : new int[] {-1, Integer.MIN_VALUE}) {
            Check.refuses("length", r, Check.ARGUMENT, x -> x.coarsestLevelFor(0, length));
            Check.refuses("length", r, Check.INDEX, x -> x.coarsestLevelFor(3, length));
            Check.refuses("length", r, Check.INDEX, x -> x.coarsestLevelFor(-1, length));
        }
    }

    /** "the greatest level at which the length equals the length at level 0". */
    private static void coarsestExactLevels() {
        for (int level = 0; level <= 6; level++) {
            Ruler r = row("shore", 129);
            // The coarser levels pass by this bend.
            r.movePoint(0, 1 << level, 1 << level, 1);
            Check.same("a bend at level " + level, r.coarsestExactLevel(0), level);
        }
        Ruler straight = row("shore", 129);
        Check.same("a straight shore", straight.coarsestExactLevel(0), 7);
        Check.same("a straight island", row("island", 129).coarsestExactLevel(0), 7);
        Check.same("an island of 128", row("island", 128).coarsestExactLevel(0), 0);
        Ruler back = taxicab(shore(0, 0, 0, 0, 5, 0, 5, 0, 0, 0));
        Check.same("level 1 of 2", back.coarsestExactLevel(0), 1);
        Check.refuses("coast 1", back, Check.INDEX, x -> x.coarsestExactLevel(1));
    }

    /** "0 without coastlines"; "-1 without coastlines"; "the smallest index". */
    private static void totalsWithoutCoastlines() {
        Ruler none = Check.with("map taxicab;");
        for (int level = 0; level <= 7; level++) {
            Check.same("the total of none", none.totalLength(level), 0);
            Check.same("the longest of none", none.longestCoast(level), -1);
        }
        for (int level : NO_LEVELS) {
            Check.refuses("total", none, Check.ARGUMENT, x -> x.totalLength(level));
            Check.refuses("longest", none, Check.ARGUMENT, x -> x.longestCoast(level));
        }
        Ruler six = taxicab(shore(0, 0, 1, 0), shore(0, 0, 2, 0), island(0, 0, 2, 0, 0, 0),
                island(0, 0, 0, 2, 0, 0), shore(5, 5, 5, 9), shore(1, 1, 1, 1));
        Check.same("the total of six", six.totalLength(0), 1 + 2 + 4 + 4 + 4 + 0);
        Check.same("the longest of equal ones", six.longestCoast(0), 2);
        Check.same("level 7", six.totalLength(7), 1 + 2 + 0 + 0 + 4 + 0);
        Check.same("the longest at 7", six.longestCoast(7), 4);
        six.movePoint(5, 0, 1000, 1000);
        Check.same("the last one", six.longestCoast(3), 5);
        Ruler flat = king(shore(2, 2, 2, 2), shore(1, 1, 1, 1));
        Check.same("of no length", flat.longestCoast(0), 0);
    }

    /** "0.0 if the latter is 0". */
    private static void ratiosToZero() {
        Ruler r = taxicab(island(0, 0, 4, 0, 4, 3), shore(1, 1, 1, 1), shore(0, 0, 7, 0, 0, 0),
                shore(0, 0, 1, 0, 0, 3));
        Check.same("14 to 14", r.refinementRatio(0, 0), 1.0);
        Check.same("14 to 0", r.refinementRatio(0, 1), 0.0);
        Check.same("0 to 0", r.refinementRatio(0, 2), 0.0);
        Check.same("0 to 0", r.refinementRatio(1, 0), 0.0);
        Check.same("14 to 0", r.refinementRatio(2, 0), 0.0);
        Check.same("5 to 3 in double", r.refinementRatio(3, 0), 5.0 / 3.0);
        Check.same("3 to 3", r.refinementRatio(3, 6), 1.0);
        Check.refuses("coast 4", r, Check.INDEX, x -> x.refinementRatio(4, 0));
    }

    /** "divided by the number of sticks, both converted to float". */
    private static void meansInFloat() {
        Ruler r = row("island", 129);
        r.movePoint(0, 128, -999, 1000);
        int length = r.lengthAt(0, 0);
        Check.same("129 sticks", r.meanStickLength(0, 0), (float) length / 129f);
        Check.same("2 sticks", r.meanStickLength(0, 7), (float) r.lengthAt(0, 7) / 2f);
        Ruler far = taxicab(shore(-1000, -1000, 1000, 1000));
        for (int i = 2; i < 129; i++) {
            far.insertPoint(0, i, i % 2 == 0 ? -1000 : 1000, i % 2 == 0 ? -1000 : 1000);
        }
        Check.same("the longest sticks", far.meanStickLength(0, 0), 4000f);
        far.movePoint(0, 0, -1000, -993);
        Check.same("rounded as float", far.meanStickLength(0, 0), 511993f / 128f);
        Ruler thirds = taxicab(island(0, 0, 1, 0, 3, 2));
        Check.same("10 / 3", thirds.meanStickLength(0, 0), 10f / 3f);
        Check.refuses("coast 1", thirds, Check.INDEX, x -> x.meanStickLength(1, 0));
    }

    // ---- islands

    /** "The absolute value of the sum"; "true if the sum ... is positive". */
    private static void areasBelowAndAtZero() {
        Ruler r = taxicab(island(0, 0, 1, 0, 0, 1), island(0, 0, 0, 1, 1, 0),
                island(5, 5, 6, 6, 7, 7), island(3, 3, 3, 3, 3, 3),
                island(0, 0, 2, 2, 2, 0, 0, 2), shore(0, 0, 1, 0, 0, 1));
        int[] areas = {1, 1, 0, 0, 0};
        for (int i = 0; i < 5; i++) {
            Check.same("area " + i, r.doubledArea(i), areas[i]);
            Check.same("counterclockwise " + i, r.isCounterclockwise(i), i == 0);
        }
        Check.refuses("area of a shore", r, Check.STATE, x -> x.doubledArea(5));
        Check.refuses("turn of a shore", r, Check.STATE, x -> x.isCounterclockwise(5));
        for (int coast : new int[] {-1, 6, Integer.MIN_VALUE, Integer.MAX_VALUE}) {
            Check.refuses("area", r, Check.INDEX, x -> x.doubledArea(coast));
            Check.refuses("turn", r, Check.INDEX, x -> x.isCounterclockwise(coast));
        }
        Ruler great = taxicab(island(-1000, -1000, 1000, -1000, 1000, 1000, -1000, 1000),
                island(-1000, 1000, 1000, 1000, 1000, -1000, -1000, -1000));
        Check.same("the greatest", great.doubledArea(0), 8000000);
        Check.same("the greatest, clockwise", great.doubledArea(1), 8000000);
        Check.same("it is clockwise", great.isCounterclockwise(1), false);
        // Round the greatest square as often as 129 points allow.
        Ruler often = taxicab(island(-1000, -1000, 1000, -1000, 1000, 1000, -1000, 1000));
        for (int i = 4; i < 128; i++) {
            often.insertPoint(0, i, often.pointX(0, i - 4), often.pointY(0, i - 4));
        }
        Check.same("32 times round", often.doubledArea(0), 32 * 8000000);
    }

    /** "a segment leads from its last point back to point 0". */
    private static void closingSegment() {
        Ruler r = taxicab(island(0, 0, 6, 0, 6, 6), shore(0, 0, 6, 0, 6, 6));
        Check.same("its length", r.lengthAt(0, 0), 24);
        Check.same("a shore has none", r.lengthAt(1, 0), 12);
        Check.same("a position on it", r.contains(0, 3, 3), true);
        Check.same("a position within it", r.contains(0, 4, 3), true);
        Check.same("a position beyond it", r.contains(0, 2, 3), false);
        Check.same("folded too", r.fold(0, 2), 6);
        Check.same("folded too", Check.points(r, 0), "island 0 0,3 2,6 0,4 3,6 6,3 5");
        Check.same("a shore has n - 1 segments", r.fold(1, 2), 5);
        Check.same("a shore has n - 1 segments", Check.points(r, 1),
                "shore 0 0,3 2,6 0,4 3,6 6");
    }

    /** "A position on a segment lies in the island." */
    private static void positionsOnSegments() {
        int[] corners = {0, 0, 8, 0, 8, 4, 4, 8, 0, 4};
        for (int turn = 0; turn < 2; turn++) {
            Ruler r = taxicab(island(corners));
            if (turn == 1) {
                r.reverse(0);
            }
            for (int x = -1; x <= 9; x++) {
                for (int y = -1; y <= 9; y++) {
                    boolean due = x >= 0 && x <= 8 && y >= 0 && x + y <= 12 && y - x <= 4;
                    Check.same("position " + x + " " + y, r.contains(0, x, y), due);
                }
            }
        }
        Ruler thin = taxicab(island(0, 0, 10, 5, 0, 0), island(2, 9, 6, 9, 4, 9),
                island(3, 1, 3, 7, 3, 4));
        Check.same("on a slope", thin.contains(0, 4, 2), true);
        Check.same("beside a slope", thin.contains(0, 4, 3), false);
        Check.same("beside a slope", thin.contains(0, 5, 2), false);
        Check.same("the end of a slope", thin.contains(0, 10, 5), true);
        Check.same("behind its end", thin.contains(0, 12, 6), false);
        Check.same("before its start", thin.contains(0, -2, -1), false);
        Check.same("on a flat one", thin.contains(1, 2, 9), true);
        Check.same("on a flat one", thin.contains(1, 6, 9), true);
        Check.same("behind a flat one", thin.contains(1, 7, 9), false);
        Check.same("before a flat one", thin.contains(1, 1, 9), false);
        Check.same("on an upright one", thin.contains(2, 3, 1), true);
        Check.same("on an upright one", thin.contains(2, 3, 7), true);
        Check.same("above an upright one", thin.contains(2, 3, 8), false);
        Check.same("below an upright one", thin.contains(2, 3, 0), false);
    }

    /** "crossed if exactly one of y1 and y2 is greater than the y coordinate". */
    private static void raysThroughPoints() {
        // The ray of a position at height 5 meets corners, tips and level segments.
        Ruler r = taxicab(island(10, 0, 20, 5, 10, 10, 0, 5), island(10, 5, 14, 9, 18, 5, 18, 0,
                10, 0), island(10, 5, 14, 1, 18, 5, 18, 9, 10, 9), island(30, 5, 34, 5, 34, 9, 38,
                9, 38, 1, 30, 1), island(10, 5, 12, 7, 14, 5, 16, 7, 18, 5, 18, 9, 10, 9));
        Check.same("two corners of a diamond", r.contains(0, 5, 5), true);
        Check.same("before a diamond", r.contains(0, -1, 5), false);
        Check.same("behind a diamond", r.contains(0, 21, 5), false);
        Check.same("before a corner below a roof", r.contains(1, 9, 5), false);
        Check.same("below a roof", r.contains(1, 14, 5), true);
        Check.same("behind it", r.contains(1, 19, 5), false);
        Check.same("before a bowl's rim", r.contains(2, 9, 5), false);
        Check.same("in a bowl", r.contains(2, 14, 5), true);
        Check.same("before a level segment", r.contains(3, 29, 5), false);
        Check.same("on a level segment", r.contains(3, 32, 5), true);
        Check.same("behind a level segment", r.contains(3, 36, 5), true);
        Check.same("behind the step", r.contains(3, 39, 5), false);
        Check.same("beside tips that point down", r.contains(4, 9, 5), false);
        Check.same("between tips that point down", r.contains(4, 12, 5), false);
        Check.same("on a tip", r.contains(4, 14, 5), true);
        Check.same("between tips, higher", r.contains(4, 12, 6), false);
        Check.same("within", r.contains(4, 12, 8), true);
        Check.same("at the top, outside", r.contains(0, 9, 10), false);
        Check.same("at the bottom, outside", r.contains(0, 9, 0), false);
        Check.same("above all", r.contains(0, 10, 11), false);
        Check.same("below all", r.contains(0, 10, -1), false);
    }

    /** "and the intersection with the ray lies to the right of the position": by a hair too. */
    private static void intersectionsToTheRight() {
        for (int width = 1; width <= 9; width++) {
            for (int height = 1; height <= 9; height++) {
                Ruler r = taxicab(island(0, 0, width, height, -20, height, -20, 0),
                        island(0, height, width, 0, -20, 0, -20, height));
                if (height % 2 == 0) {
                    r.reverse(0);
                    r.reverse(1);
                }
                for (int x = -1; x <= width + 1; x++) {
                    for (int y = 0; y <= height; y++) {
                        // Left of the slope: x * height <= y * width, for the slope from 0 0.
                        Check.same("below " + width + " " + height + " at " + x + " " + y,
                                r.contains(0, x, y), x * height <= y * width);
                        Check.same("above " + width + " " + height + " at " + x + " " + y,
                                r.contains(1, x, y), x * height <= (height - y) * width);
                    }
                }
            }
        }
        // On the slope from corner to corner, x is y and (y + 1000) / 1999.
        Ruler wide = taxicab(island(-1000, -1000, 1000, 999, -1000, 999));
        for (int y = -1000; y <= 999; y += y < 990 ? 37 : 1) {
            Check.same("left of a long slope", wide.contains(0, y, y), true);
            Check.same("right of a long slope", wide.contains(0, y + 1, y), y == 999);
        }
    }

    /** "x coordinate of the position, -1000 to 1000"; the three exceptions in their order. */
    private static void containsAtTheLimits() {
        Ruler r = taxicab(island(-1000, -1000, 1000, -1000, 1000, 1000, -1000, 1000),
                shore(0, 0, 1, 1), island(0, 0, 1, 0, 0, 1));
        for (int x : new int[] {-1000, 1000, 0, 999, -999}) {
            for (int y : new int[] {-1000, 1000, 0, 999, -999}) {
                Check.same("in the greatest", r.contains(0, x, y), true);
                Check.same("in the smallest", r.contains(2, x, y), x == 0 && y == 0);
            }
        }
        for (int n : NO_COORDINATES) {
            Check.refuses("x " + n, r, Check.ARGUMENT, x -> x.contains(0, n, 0));
            Check.refuses("y " + n, r, Check.ARGUMENT, x -> x.contains(0, 0, n));
            Check.refuses("x in a shore", r, Check.STATE, x -> x.contains(1, n, 0));
            Check.refuses("y in a shore", r, Check.STATE, x -> x.contains(1, 0, n));
            Check.refuses("x in none", r, Check.INDEX, x -> x.contains(3, n, 0));
            Check.refuses("y in none", r, Check.INDEX, x -> x.contains(-1, 0, n));
        }
        Check.refuses("in a shore", r, Check.STATE, x -> x.contains(1, 0, 0));
    }

    /** "false if both indexes are equal"; "if one of the indexes is not that of a coastline". */
    private static void enclosesItself() {
        Ruler r = new Ruler();
        Check.same("itself", r.encloses(1, 1), false);
        Check.same("itself", r.encloses(2, 2), false);
        Check.same("another", r.encloses(1, 2), true);
        Check.same("all points but one", r.movePoint(2, 2, 40, 21) > 0 && r.encloses(1, 2), false);
        Check.same("the last on the edge", r.movePoint(2, 2, 40, 20) > 0 && r.encloses(1, 2), true);
        Check.same("the first outside", r.movePoint(2, 0, 29, 5) > 0 && r.encloses(1, 2), false);
        r.movePoint(2, 0, 35, 5);
        Check.same("an equal one", Check.add(r, "island 30 0,50 0,50 20,30 20"), 3);
        Check.same("an equal one", r.encloses(1, 3) && r.encloses(3, 1), true);
        for (int none : new int[] {-1, 4, 6, Integer.MIN_VALUE, Integer.MAX_VALUE}) {
            Check.refuses("by none", r, Check.INDEX, x -> x.encloses(none, 1));
            Check.refuses("none", r, Check.INDEX, x -> x.encloses(1, none));
            Check.refuses("none by a shore", r, Check.INDEX, x -> x.encloses(0, none));
            Check.refuses("a shore by none", r, Check.INDEX, x -> x.encloses(none, 0));
            Check.refuses("none by none", r, Check.INDEX, x -> x.encloses(none, none));
        }
        for (int coast = 0; coast < 4; coast++) {
            int inner = coast;
            Check.refuses("by a shore", r, Check.STATE, x -> x.encloses(0, inner));
        }
    }

    /** "the smallest index if several areas are equal; -1 if no island encloses it". */
    private static void smallestOfEqualAreas() {
        String square = island(0, 0, 9, 0, 9, 9, 0, 9);
        Ruler r = taxicab(shore(1, 1, 2, 2), square, island(0, 0, 9, 0, 9, 10, 0, 10), square,
                island(9, 0, 0, 0, 0, 9, 9, 9), shore(1, 1, 10, 10));
        Check.same("of three equal ones", r.innermostIslandAround(0), 1);
        Check.same("an island never around itself", r.innermostIslandAround(1), 3);
        Check.same("the first of two others", r.innermostIslandAround(3), 1);
        Check.same("clockwise ones are as great", r.innermostIslandAround(4), 1);
        Check.same("none around the greatest", r.innermostIslandAround(2), -1);
        Check.same("none", r.innermostIslandAround(5), -1);
        r.movePoint(4, 0, 8, 0);
        Check.same("the smaller one, clockwise", r.innermostIslandAround(0), 4);
        Ruler flat = taxicab(shore(2, 2, 3, 3), island(0, 0, 9, 9, 4, 4),
                island(0, 0, 5, 0, 5, 5, 0, 5));
        Check.same("an area of 0", flat.innermostIslandAround(0), 1);
        Ruler none = Check.with("map taxicab;shore 0 0,1 1;");
        Check.same("no islands", none.innermostIslandAround(0), -1);
        for (int coast : new int[] {-1, 1, 6, Integer.MIN_VALUE, Integer.MAX_VALUE}) {
            Check.refuses("around none", none, Check.INDEX, x -> x.innermostIslandAround(coast));
            Check.refuses("depth of none", none, Check.INDEX, x -> x.ringDepth(coast));
        }
    }

    /** "the number of islands that enclose it": from 0 to 5. */
    private static void noneToFiveIslandsAround() {
        String[] rings = new String[6];
        for (int i = 0; i < 6; i++) {
            rings[i] = island(-i, -i, i, -i, i, i, -i, i);
        }
        Ruler r = taxicab(rings);
        for (int i = 0; i < 6; i++) {
            Check.same("around ring " + i, r.ringDepth(i), 5 - i);
            Check.same("innermost around ring " + i, r.innermostIslandAround(i),
                    i == 5 ? -1 : i + 1);
        }
        Ruler same = taxicab(rings[5], rings[5], rings[5], rings[5], rings[5], rings[5]);
        for (int i = 0; i < 6; i++) {
            Check.same("five equal ones", same.ringDepth(i), 5);
            Check.same("the first of them", same.innermostIslandAround(i), i == 0 ? 1 : 0);
        }
        Ruler shores = taxicab(shore(0, 0, 0, 0), shore(0, 0, 0, 0), shore(0, 0, 9, 9, 0, 0));
        Check.same("shores enclose nothing", shores.ringDepth(0), 0);
    }

    /** "the greatest x coordinate minus the smallest one". */
    private static void boxes() {
        Ruler r = taxicab(shore(-1000, -1000, 1000, 1000), shore(1000, 1000, 1000, 1000),
                shore(-1000, -1000, -1000, -1000), island(-7, 3, 5, 3, 0, 3),
                island(4, -9, 4, 8, 4, 0));
        int[][] due = {{2000, 2000}, {0, 0}, {0, 0}, {12, 0}, {0, 17}};
        for (int i = 0; i < due.length; i++) {
            Check.same("width " + i, r.boxWidth(i), due[i][0]);
            Check.same("height " + i, r.boxHeight(i), due[i][1]);
        }
        for (int coast : new int[] {-1, 5, 6, Integer.MIN_VALUE, Integer.MAX_VALUE}) {
            Check.refuses("width of none", r, Check.INDEX, x -> x.boxWidth(coast));
            Check.refuses("height of none", r, Check.INDEX, x -> x.boxHeight(coast));
        }
        Ruler full = row("shore", 129);
        Check.same("with the 129th", full.boxWidth(0), 128);
        full.movePoint(0, 128, -1, -6);
        Check.same("with the 129th", full.boxWidth(0), 128);
        Check.same("with the 129th", full.boxHeight(0), 6);
    }

    // ---- what a change would do

    private static void obstacle(String coast, int height, int due) {
        Ruler r = taxicab(coast);
        Check.same(coast + " folded with " + height, r.foldObstacle(0, height), due);
        if (due == 0) {
            r.fold(0, height);
            Check.same(coast + " is folded", r.undoableCount(), 1);
        } else {
            Check.refuses(coast + " folded", r, Check.STATE, x -> x.fold(0, height));
            Check.same(coast + " after folding", r.lengthAfterFold(0, height, 0), -1);
        }
    }

    /** "2 if a coordinate would be out of range": 1000 and -1000 are in range, both ways. */
    private static void obstaclesAtTheLimits() {
        obstacle(shore(0, 950, 9, 950), 50, 0);
        obstacle(shore(0, 951, 9, 951), 50, 2);
        obstacle(shore(0, -950, 9, -950), -50, 0);
        obstacle(shore(0, -951, 9, -951), -50, 2);
        obstacle(shore(950, 0, 950, 9), 50, 0);
        obstacle(shore(951, 0, 951, 9), 50, 2);
        obstacle(shore(-950, 0, -950, 9), -50, 0);
        obstacle(shore(-951, 0, -951, 9), -50, 2);
        // The second segment shrinks where the first one grows.
        obstacle(shore(0, 0, 0, 990, 9, 990), -10, 0);
        obstacle(shore(0, 0, 0, 990, 9, 990), -11, 2);
        obstacle(shore(0, 0, -990, 0, -990, 9), 10, 0);
        obstacle(shore(0, 0, -990, 0, -990, 9), 11, 2);
        // Rounded down first: the middle of -1000 and -999 is -1000.
        obstacle(shore(-1000, 0, -999, 9), 0, 0);
        obstacle(shore(-1000, 0, -999, 9), -1, 2);
        obstacle(shore(1000, 0, 999, 9), 1, 0);
        obstacle(shore(1000, 0, 999, 9), 2, 2);
        // The closing segment of an island of 3 grows, that of an island of 4 shrinks.
        obstacle(island(0, 999, 0, 0, 9, 999), 1, 0);
        obstacle(island(0, 999, 0, 0, 9, 999), 2, 2);
        obstacle(island(0, -999, 0, 0, 0, 0, 9, -999), 1, 0);
        obstacle(island(0, -999, 0, 0, 0, 0, 9, -999), 2, 2);
        obstacle(shore(0, 1000, 9, 1000), 0, 0);
        obstacle(shore(0, 1000, 9, 1000), 1, 2);
        obstacle(shore(0, 1000, 9, 1000), -50, 0);
        Ruler r = new Ruler();
        for (int height : new int[] {51, -51, Integer.MAX_VALUE, Integer.MIN_VALUE}) {
            Check.refuses("obstacle", r, Check.ARGUMENT, x -> x.foldObstacle(0, height));
            Check.refuses("obstacle", r, Check.INDEX, x -> x.foldObstacle(3, height));
            Check.refuses("after", r, Check.ARGUMENT, x -> x.lengthAfterFold(0, height, 0));
            Check.refuses("after", r, Check.ARGUMENT, x -> x.lengthAfterFold(0, height, 8));
            Check.refuses("after", r, Check.INDEX, x -> x.lengthAfterFold(-1, height, 8));
        }
        Check.same("height 50", r.foldObstacle(0, 50), 0);
        Check.same("height -50", r.foldObstacle(0, -50), 0);
        Check.same("height 50", r.lengthAfterFold(0, 50, 1), 31);
        Check.same("height -50", r.lengthAfterFold(0, -50, 1), 31);
    }

    /** "1 if it would have more than 129 points ... (1 takes precedence)". */
    private static void firstObstacleFirst() {
        for (int points = 62; points <= 129; points++) {
            if (points > 67 && points < 127) {
                continue;
            }
            Ruler shore = row("shore", points);
            Ruler island = row("island", points);
            Check.same("a shore of " + points, shore.foldObstacle(0, 0), points > 65 ? 1 : 0);
            Check.same("an island of " + points, island.foldObstacle(0, 0), points > 64 ? 1 : 0);
            shore.shift(0, 0, 1000);
            island.shift(0, 0, -1000);
            Check.same("at 1000", shore.foldObstacle(0, 1), points > 65 ? 1 : 2);
            Check.same("at -1000", island.foldObstacle(0, 1), points > 64 ? 1 : 2);
        }
    }

    /** "the length; -1 if the coastline cannot be folded". */
    private static void lengthsAfterNoFold() {
        Ruler most = row("shore", 65);
        Check.same("a shore of 65", most.lengthAfterFold(0, 0, 0), 64);
        Check.same("at level 7", most.lengthAfterFold(0, 50, 7), 64);
        Check.same("nothing has changed", most.pointCount(0), 65);
        Ruler island = row("island", 64);
        Check.same("an island of 64", island.lengthAfterFold(0, 0, 0), 126);
        Check.same("at level 7", island.lengthAfterFold(0, 0, 7), 0);
        for (int level = 0; level <= 7; level++) {
            Check.same("a shore of 66", row("shore", 66).lengthAfterFold(0, 0, level), -1);
            Check.same("an island of 65", row("island", 65).lengthAfterFold(0, 0, level), -1);
        }
        Ruler high = taxicab(shore(0, 1000, 9, 1000));
        Check.same("within", high.lengthAfterFold(0, 0, 0), 9);
        Check.same("out of range", high.lengthAfterFold(0, 1, 7), -1);
        for (int level : NO_LEVELS) {
            Check.refuses("not to be folded", high, Check.ARGUMENT,
                    x -> x.lengthAfterFold(0, 1, level));
        }
    }

    /** "-1 if the point cannot be removed". */
    private static void lengthsWithoutNeededPoints() {
        Ruler r = taxicab(shore(0, 0, 9, 9), shore(0, 0, 9, 9, 1, 1), island(0, 0, 9, 9, 1, 1),
                island(0, 0, 4, 0, 4, 4, 0, 4));
        for (int point = 0; point < 4; point++) {
            if (point < 2) {
                Check.same("a shore of 2", r.lengthWithoutPoint(0, point), -1);
            }
            if (point < 3) {
                Check.same("a shore of 3", r.lengthWithoutPoint(1, point),
                        new int[] {16, 2, 18}[point]);
                Check.same("an island of 3", r.lengthWithoutPoint(2, point), -1);
            }
            Check.same("an island of 4", r.lengthWithoutPoint(3, point), 16);
        }
        for (int coast = 0; coast < 5; coast++) {
            int of = coast;
            int points = coast == 4 ? 0 : r.pointCount(coast);
            for (int point : new int[] {-1, points, Integer.MIN_VALUE, Integer.MAX_VALUE}) {
                Check.refuses("without " + point, r, Check.INDEX,
                        x -> x.lengthWithoutPoint(of, point));
            }
        }
        Check.refuses("of no coast", r, Check.INDEX, x -> x.lengthWithoutPoint(-1, 0));
        Ruler full = row("shore", 129);
        Check.same("without the 129th", full.lengthWithoutPoint(0, 128), 127);
        Check.same("without the first", full.lengthWithoutPoint(0, 0), 127);
        Check.same("without an inner one", full.lengthWithoutPoint(0, 64), 128);
        Check.refuses("without a 130th", full, Check.INDEX, x -> x.lengthWithoutPoint(0, 129));
    }

    /** "the smallest index if several are equal; -1 if no point can be removed". */
    private static void leastImportantOfEqualOnes() {
        Ruler r = taxicab(shore(0, 0, 9, 9), island(0, 0, 9, 9, 1, 1), shore(5, 5, 5, 5, 5, 5),
                shore(0, 0, 5, 0, 6, 0, 7, 0), island(0, 0, 4, 0, 4, 4, 0, 4));
        Check.same("a shore of 2", r.leastImportantPoint(0), -1);
        Check.same("an island of 3", r.leastImportantPoint(1), -1);
        Check.same("all points equal", r.leastImportantPoint(2), 0);
        Check.same("the inner ones equal", r.leastImportantPoint(3), 1);
        Check.same("all equal on an island", r.leastImportantPoint(4), 0);
        Ruler last = taxicab(shore(0, 0, 9, 9, 0, 0, 1, 0), island(0, 0, 20, -5, 10, 10, 5, 5));
        Check.same("the last of a shore", last.leastImportantPoint(0), 3);
        Check.same("the last of an island", last.leastImportantPoint(1), 3);
        last.movePoint(1, 3, 10, 10);
        Check.same("of two equal points the first", last.leastImportantPoint(1), 2);
        for (int coast : new int[] {-1, 5, 6, Integer.MIN_VALUE, Integer.MAX_VALUE}) {
            Check.refuses("of none", r, Check.INDEX, x -> x.leastImportantPoint(coast));
        }
    }

    /** "the length of a coastline under the metric that the map does not use". */
    private static void otherMetric() {
        Ruler r = taxicab(shore(-1000, -1000, 1000, 1000), island(0, 0, 3, 4, 0, 0));
        Check.same("king", r.lengthInOtherMetric(0, 0), 2000);
        Check.same("king at 7", r.lengthInOtherMetric(0, 7), 2000);
        Check.same("king of an island", r.lengthInOtherMetric(1, 0), 8);
        Check.same("an island at 7", r.lengthInOtherMetric(1, 7), 0);
        r.setKingMetric(true);
        Check.same("taxicab", r.lengthInOtherMetric(0, 0), 4000);
        Check.same("taxicab of an island", r.lengthInOtherMetric(1, 0), 14);
        Check.same("king stays", r.lengthAt(0, 0), 2000);
    }

    /** "The map has a metric": every length is measured with it, and none with the other. */
    private static void lengthsUnderTheMetric() {
        String[] coasts = {shore(0, 0, 10, 0, 10, 10, 10, 10, 10, 4), shore(0, 0, 12, 12),
            shore(0, 0, 18, 0)};
        String sums = "26 20 12 1 1 1 68 0 " + 26.0 / 14.0 + " 13.0";
        String greater = "16 10 6 0 0 0 46 2 1.6 8.0";
        Ruler r = taxicab(coasts);
        Check.same("taxicab", lengths(r), sums);
        r.setKingMetric(true);
        Check.same("set to king", lengths(r), greater);
        r.undo();
        Check.same("undone", lengths(r), sums);
        Check.run(r, "metric king;");
        Check.same("king by a script", lengths(r), greater);
        Ruler loaded = king(coasts);
        Check.same("king", lengths(loaded), greater);
        loaded.saveSnapshot();
        loaded.setKingMetric(false);
        Check.same("set to taxicab", lengths(loaded), sums);
        loaded.restoreSnapshot();
        Check.same("king by the snapshot", lengths(loaded), greater);
    }

    private static String lengths(Ruler r) {
        return r.lengthAt(0, 1) + " " + r.stickLength(0, 1, 0) + " " + r.lengthGain(0, 1) + " "
                + r.levelOfGreatestGain(0) + " " + r.coarsestLevelFor(0, 20) + " "
                + r.coarsestExactLevel(0) + " " + r.totalLength(1) + " " + r.longestCoast(1) + " "
                + r.refinementRatio(0, 1) + " " + r.meanStickLength(0, 1);
    }

    /** Each query of a coastline of 129 points, where no row has room behind the last one. */
    private static void allOfAFullCoastline() {
        Ruler shore = row("shore", 129);
        Ruler island = row("island", 129);
        full(shore, 128, 128, 0);
        full(island, 129, 256, 128);
        Check.same("the area", island.doubledArea(0), 0);
        Check.same("the turn", island.isCounterclockwise(0), false);
        Check.same("on it", island.contains(0, 77, 0), true);
        Check.same("beside it", island.contains(0, 77, 1), false);
        Check.same("another", Check.add(island, Check.row("shore", 33)), 1);
        Check.same("around another", island.encloses(0, 1), true);
        Check.same("around another", island.innermostIslandAround(1), 0);
        Check.same("around another", island.ringDepth(1), 1);
    }

    private static void full(Ruler r, int sticks, int length, int longest) {
        Check.same("sticks", r.stickCount(0, 0), sticks);
        Check.same("the last stick", r.stickStart(0, 0, sticks - 1), sticks - 1);
        Check.same("its length", r.stickLength(0, 0, sticks - 1), sticks == 129 ? 128 : 1);
        Check.same("the longest", r.longestStick(0, 0), longest);
        Check.same("the gain", r.lengthGain(0, 0), 0);
        Check.same("no gain at all", r.levelOfGreatestGain(0), 0);
        Check.same("the length", r.coarsestLevelFor(0, length), 7);
        Check.same("one more", r.coarsestLevelFor(0, length + 1), -1);
        Check.same("exact", r.coarsestExactLevel(0), 7);
        Check.same("the total", r.totalLength(0), length);
        Check.same("the longest coastline", r.longestCoast(0), 0);
        Check.same("the ratio", r.refinementRatio(0, 0), 1.0);
        Check.same("the mean", r.meanStickLength(0, 0), (float) length / (float) sticks);
        Check.same("the other metric", r.lengthInOtherMetric(0, 0), length);
        Check.same("the nearest", r.nearestPoint(0, 1000, 0), 128);
        Check.same("the width", r.boxWidth(0), 128);
        Check.same("the height", r.boxHeight(0), 0);
        Check.same("the obstacle", r.foldObstacle(0, 50), 1);
        Check.same("not folded", r.lengthAfterFold(0, 50, 0), -1);
        Check.same("without the last", r.lengthWithoutPoint(0, 128), length == 128 ? 127 : 254);
        Check.same("without the first", r.lengthWithoutPoint(0, 0), length == 128 ? 127 : 254);
        Check.same("the least important", r.leastImportantPoint(0), 1);
        Check.same("the lengths written", r.writeLengths(0), 31);
    }
}
