/** The sentences on the changes, by a call or by a script, that name a boundary. */
public final class ChangeEdgesTest {
    private static final int[] NO_COASTS = {-1, 3, 5, 6, Integer.MIN_VALUE, Integer.MAX_VALUE};

    public static void main(String[] args) {
        midpointsRoundedDown();
        displacedAlongXOrY();
        growsAndShrinks();
        heightsFromMinus50To50();
        foldedTo129Points();
        foldedUpToTheLimits();
        oddPointsAreRemoved();
        unfoldedToTheFewest();
        sixthAndSeventhCoast();
        removedCoasts();
        movedAtTheLimits();
        insertedAtTheEnds();
        insertedUpTo129();
        removedAtTheEnds();
        shiftsFromMinus2000To2000();
        shiftedToTheLimits();
        lastPointBecomesPoint0();
        metricBefore();
        ledgersOfALoadedMap();
        addedPoints();
        removedPoints();
        ledgersOfOldChanges();
        completelyParsed();
        stopsAtTheFirstRefused();
        stopsAtTheLimits();
        twentyCommands();
        commandsDoWhatTheirMethodsDo();
        Check.finish();
    }

    private static void isNow(String what, Ruler ruler, int coast, String due) {
        Check.same(what, Check.points(ruler, coast), due);
    }

    private static String folded(String coast, int height) {
        Ruler r = Check.with("map taxicab;" + coast + ";");
        r.fold(0, height);
        return Check.points(r, 0);
    }

    // ---- fold and unfold

    /** "divided by 2 and rounded down (toward negative infinity)". */
    private static void midpointsRoundedDown() {
        int[][] sums = {{0, 1, 0}, {1, 2, 1}, {0, -1, -1}, {-1, -2, -2}, {-3, 2, -1}, {3, -2, 0},
            {-1, -1, -1}, {-2, 0, -1}, {0, 0, 0}, {999, 1000, 999}, {-1000, -999, -1000},
            {-999, 1000, 0}, {-1000, 999, -1}};
        for (int[] sum : sums) {
            int a = sum[0];
            int b = sum[1];
            Check.same("middle of x " + a + " and " + b, folded("shore " + a + " 0," + b + " 0", 0),
                    "shore " + a + " 0," + sum[2] + " 0," + b + " 0");
            Check.same("middle of y " + a + " and " + b, folded("shore 0 " + a + ",0 " + b, 0),
                    "shore 0 " + a + ",0 " + sum[2] + ",0 " + b);
            Check.same("middle of both", folded("shore " + a + " " + a + "," + b + " " + b, 0),
                    "shore " + a + " " + a + "," + sum[2] + " " + sum[2] + "," + b + " " + b);
        }
        Check.same("rounded before it is displaced", folded("shore 0 0,4 -1", 1),
                "shore 0 0,2 0,4 -1");
        Check.same("rounded before it is displaced", folded("shore 0 0,-1 4", 1),
                "shore 0 0,0 2,-1 4");
    }

    /** "if the absolute difference of the x coordinates is at least that of the y". */
    private static void displacedAlongXOrY() {
        int[][] ends = {{4, 4, 2, 12}, {4, -4, 2, 8}, {-4, 4, -2, 12}, {-4, -4, -2, 8},
            {4, 3, 2, 11}, {4, -3, 2, 8}, {-4, 3, -2, 11}, {3, 4, 11, 2}, {-3, 4, 8, 2},
            {3, -4, 11, -2}, {-3, -4, 8, -2}, {0, 0, 0, 10}, {5, 0, 2, 10}, {0, 5, 10, 2},
            {1, 0, 0, 10}, {0, 1, 10, 0}, {0, -1, 10, -1}, {-1, 0, -1, 10}};
        for (int[] end : ends) {
            Check.same("to " + end[0] + " " + end[1],
                    folded("shore 0 0," + end[0] + " " + end[1], 10),
                    "shore 0 0," + end[2] + " " + end[3] + "," + end[0] + " " + end[1]);
        }
    }

    /** "grows by the height on segments with an even index and shrinks ... with an odd index". */
    private static void growsAndShrinks() {
        Check.same("a shore", folded("shore 0 0,4 0,8 0,12 0,16 0", 3),
                "shore 0 0,2 3,4 0,6 -3,8 0,10 3,12 0,14 -3,16 0");
        Check.same("below 0", folded("shore 0 0,4 0,8 0", -3), "shore 0 0,2 -3,4 0,6 3,8 0");
        Check.same("along x", folded("shore 0 0,0 4,0 8", 3), "shore 0 0,3 2,0 4,-3 6,0 8");
        Check.same("the closing segment is even", folded("island 0 0,4 0,4 9", 5),
                "island 0 0,2 5,4 0,-1 4,4 9,7 4");
        Check.same("the closing segment is odd", folded("island 0 0,4 0,4 9,0 9", 5),
                "island 0 0,2 5,4 0,-1 4,4 9,2 14,0 9,-5 4");
        Check.same("a shore has no closing segment", folded("shore 0 0,4 0,4 9,0 9", 5),
                "shore 0 0,2 5,4 0,-1 4,4 9,2 14,0 9");
        Check.same("height 0", folded("island 0 0,4 0,4 9", 0),
                "island 0 0,2 0,4 0,4 4,4 9,2 4");
    }

    /** "height: -50 to 50". */
    private static void heightsFromMinus50To50() {
        Check.same("50", folded("shore 0 0,4 0,8 0", 50), "shore 0 0,2 50,4 0,6 -50,8 0");
        Check.same("-50", folded("shore 0 0,4 0,8 0", -50), "shore 0 0,2 -50,4 0,6 50,8 0");
        Ruler r = new Ruler();
        Check.add(r, "shore 1000 1000,1000 1000");
        for (int height : new int[] {51, -51, Integer.MAX_VALUE, Integer.MIN_VALUE}) {
            Check.refuses("height " + height, r, Check.ARGUMENT, x -> x.fold(0, height));
            Check.refuses("at the limit too", r, Check.ARGUMENT, x -> x.fold(3, height));
            Check.refuses("of no coast", r, Check.INDEX, x -> x.fold(4, height));
            Check.refuses("of no coast", r, Check.INDEX, x -> x.fold(-1, height));
        }
        Check.refuses("out of range", r, Check.STATE, x -> x.fold(3, 50));
        Check.same("the new number of points", r.fold(3, -50), 3);
    }

    private static Ruler row(String kind, int points) {
        Ruler r = Check.with("map taxicab;" + Check.row(kind, Math.min(points, 33)) + ";");
        Check.grow(r, 0, points);
        return r;
    }

    /** "if the coastline would have more than 129 points". */
    private static void foldedTo129Points() {
        Ruler shore = row("shore", 65);
        Check.same("a shore of 65", shore.fold(0, 0), 129);
        Check.same("its last point", shore.pointX(0, 128), 64);
        Check.refuses("a shore of 129", shore, Check.STATE, x -> x.fold(0, 0));
        Check.refuses("a shore of 66", row("shore", 66), Check.STATE, x -> x.fold(0, 0));
        Ruler island = row("island", 64);
        Check.same("an island of 64", island.fold(0, 0), 128);
        Check.same("its last point", island.pointX(0, 127), 31);
        Check.refuses("an island of 128", island, Check.STATE, x -> x.fold(0, 0));
        Check.refuses("an island of 65", row("island", 65), Check.STATE, x -> x.fold(0, 0));
        Check.refuses("an island of 129", row("island", 129), Check.STATE, x -> x.fold(0, 0));
        Check.refuses("and height 51", row("island", 129), Check.ARGUMENT, x -> x.fold(0, 51));
        Check.same("a shore of 2", row("shore", 2).fold(0, 0), 3);
        Check.same("an island of 3", row("island", 3).fold(0, 0), 6);
    }

    /** "or a coordinate would be out of range": 1000 and -1000 are within. */
    private static void foldedUpToTheLimits() {
        String[] coasts = {"shore 0 990,4 990", "shore 990 0,990 4", "shore 0 -990,4 -990",
            "shore -990 0,-990 4", "island 0 0,990 9,990 0", "island 9 -990,0 0,-9 0,-9 -990"};
        int[] within = {10, 10, -10, -10, -10, 10};
        int[] beyond = {11, 11, -11, -11, -11, 11};
        String[] due = {"shore 0 990,2 1000,4 990", "shore 990 0,1000 2,990 4",
            "shore 0 -990,2 -1000,4 -990", "shore -990 0,-1000 2,-990 4",
            "island 0 0,495 -6,990 9,1000 4,990 0,495 -10",
            "island 9 -990,14 -495,0 0,-5 -10,-9 0,1 -495,-9 -990,0 -1000"};
        for (int i = 0; i < coasts.length; i++) {
            Ruler r = Check.with("map king;" + coasts[i] + ";");
            int height = beyond[i];
            Check.refuses("beyond " + i, r, Check.STATE, x -> x.fold(0, height));
            Check.same("within " + i, r.fold(0, within[i]) > 2, true);
            isNow("it is folded", r, 0, due[i]);
        }
    }

    /** "To unfold a coastline, all points with an odd index are removed." */
    private static void oddPointsAreRemoved() {
        for (int points = 3; points <= 129; points += points < 12 ? 1 : 13) {
            Ruler shore = row("shore", points);
            Check.same("a shore of " + points, shore.unfold(0), (points + 1) / 2);
            for (int i = 0; i < (points + 1) / 2; i++) {
                Check.same("point " + i, shore.pointX(0, i), 2 * i);
            }
            Check.refuses("the next point", shore, Check.INDEX,
                    x -> x.pointX(0, x.pointCount(0)));
        }
        Check.same("an island of 129", row("island", 129).unfold(0), 65);
        Check.same("an island of 128", row("island", 128).unfold(0), 64);
        for (String coast : new String[] {"shore 5 6,-7 8,9 -10,1 0", "island 1 2,30 4,5 60"}) {
            Ruler r = Check.with("map king;" + coast + ";");
            r.fold(0, 7);
            r.unfold(0);
            isNow("folded and unfolded", r, 0, coast);
        }
    }

    /** "if fewer points would be left than a shore (2) or an island (3) needs". */
    private static void unfoldedToTheFewest() {
        int[] left = {0, 0, 0, 2, 2, 3, 3};
        for (int points = 2; points <= 6; points++) {
            Ruler shore = row("shore", points);
            if (points == 2) {
                Check.refuses("a shore of 2", shore, Check.STATE, x -> x.unfold(0));
            } else {
                Check.same("a shore of " + points, shore.unfold(0), left[points]);
            }
        }
        for (int points = 3; points <= 6; points++) {
            Ruler island = row("island", points);
            if (points < 5) {
                Check.refuses("an island of " + points, island, Check.STATE, x -> x.unfold(0));
            } else {
                Check.same("an island of " + points, island.unfold(0), left[points]);
            }
        }
        for (int coast : NO_COASTS) {
            Check.refuses("coast " + coast, new Ruler(), Check.INDEX, x -> x.unfold(coast));
        }
    }

    // ---- coastlines

    /** "if the map has 6 coastlines; the buffer is not emptied then". */
    private static void sixthAndSeventhCoast() {
        Ruler r = Check.with("map taxicab;");
        for (int i = 0; i < 6; i++) {
            Check.same("the index", Check.add(r, "shore " + i + " 0,0 0"), i);
        }
        Check.feed(r, "shore 7 8,9 10");
        Check.refuses("a seventh", r, Check.STATE, x -> x.addCoast(14));
        Check.refuses("a wrong one", r, Check.STATE, x -> x.addCoast(13));
        Check.refuses("an empty one", r, Check.STATE, x -> x.addCoast(0));
        Check.refuses("too long", r, Check.ARGUMENT, x -> x.addCoast(21));
        Check.refuses("length -1", r, Check.ARGUMENT, x -> x.addCoast(-1));
        Check.same("removed", r.removeCoast(0), 2);
        Check.same("the buffer was kept", r.addCoast(14), 5);
        isNow("the coast in it", r, 5, "shore 7 8,9 10");
        isNow("the one before", r, 4, "shore 5 0,0 0");
    }

    /** "The indexes of the coastlines behind it decrease by 1." */
    private static void removedCoasts() {
        String[] coasts = {"shore 0 0,1 1", "island 2 2,3 3,4 4", "shore 5 5,6 6,7 7",
            "island 8 8,9 9,10 10,11 11", "shore 12 12,13 13", "shore 14 14,15 15"};
        String map = "map king;" + String.join(";", coasts) + ";";
        int[] points = {2, 3, 3, 4, 2, 2};
        for (int gone = 0; gone < 6; gone++) {
            Ruler r = Check.with(map);
            Check.same("the number of its points", r.removeCoast(gone), points[gone]);
            Check.same("the others", Check.map(r), map.replace(coasts[gone] + ";", ""));
            Check.same("they are five", r.coastCount(), 5);
            Check.refuses("coast 5", r, Check.INDEX, x -> x.removeCoast(5));
            Check.add(r, "shore 7 7,8 8");
            isNow("a new one is the last", r, 5, "shore 7 7,8 8");
            r.undo();
            r.undo();
            Check.same("brought back", Check.map(r), map);
        }
        Ruler r = new Ruler();
        for (int coast : NO_COASTS) {
            Check.refuses("coast " + coast, r, Check.INDEX, x -> x.removeCoast(coast));
        }
        r.removeCoast(2);
        r.removeCoast(1);
        r.removeCoast(0);
        Check.same("none is left", r.coastCount(), 0);
        for (int coast : new int[] {-1, 0, 1}) {
            Check.refuses("of none", r, Check.INDEX, x -> x.removeCoast(coast));
        }
    }

    // ---- points

    /** "-1000 to 1000"; "the distance of the old and the new position". */
    private static void movedAtTheLimits() {
        Ruler r = Check.with("map taxicab;shore 0 0,1 1;island 0 0,1 1,2 2;");
        Check.same("to a corner", r.movePoint(0, 0, -1000, 1000), 2000);
        Check.same("to the opposite one", r.movePoint(0, 0, 1000, -1000), 4000);
        Check.same("to where it is", r.movePoint(0, 0, 1000, -1000), 0);
        r.setKingMetric(true);
        Check.same("a king's way", r.movePoint(0, 0, -1000, 1000), 2000);
        Check.same("a king's way", r.movePoint(1, 2, 5, 9), 7);
        isNow("moved", r, 1, "island 0 0,1 1,5 9");
        for (int n : new int[] {1001, -1001, Integer.MIN_VALUE, Integer.MAX_VALUE}) {
            Check.refuses("x", r, Check.ARGUMENT, x -> x.movePoint(0, 0, n, 0));
            Check.refuses("y", r, Check.ARGUMENT, x -> x.movePoint(0, 0, 0, n));
            Check.refuses("no point, x", r, Check.INDEX, x -> x.movePoint(0, 2, n, 0));
            Check.refuses("no coast, y", r, Check.INDEX, x -> x.movePoint(2, 0, 0, n));
        }
        for (int point : new int[] {-1, 2, 3, 128, Integer.MIN_VALUE, Integer.MAX_VALUE}) {
            Check.refuses("point", r, Check.INDEX, x -> x.movePoint(0, point, 0, 0));
        }
        Check.refuses("point 3 of an island of 3", r, Check.INDEX, x -> x.movePoint(1, 3, 0, 0));
        Ruler full = row("shore", 129);
        Check.same("the 129th", full.movePoint(0, 128, 128, 5), 5);
        Check.refuses("a 130th", full, Check.INDEX, x -> x.movePoint(0, 129, 0, 0));
    }

    /** "index of the new point, 0 to the number of points". */
    private static void insertedAtTheEnds() {
        Ruler r = Check.with("map king;shore 1 1,2 2;island 1 1,2 2,3 3;");
        Check.same("at 0", r.insertPoint(0, 0, 5, 6), 3);
        Check.same("at the number of points", r.insertPoint(0, 3, 7, 8), 4);
        Check.same("before the last", r.insertPoint(0, 3, 9, 10), 5);
        isNow("inserted", r, 0, "shore 5 6,1 1,2 2,9 10,7 8");
        Check.same("at the end of an island", r.insertPoint(1, 3, 4, 4), 4);
        isNow("inserted", r, 1, "island 1 1,2 2,3 3,4 4");
        for (int point : new int[] {-1, 6, 129, 130, Integer.MIN_VALUE, Integer.MAX_VALUE}) {
            Check.refuses("point", r, Check.INDEX, x -> x.insertPoint(0, point, 0, 0));
            Check.refuses("point and x", r, Check.INDEX, x -> x.insertPoint(0, point, 1001, 0));
        }
        for (int coast : new int[] {-1, 2, 6}) {
            Check.refuses("coast", r, Check.INDEX, x -> x.insertPoint(coast, 0, 0, 1001));
        }
        for (int n : new int[] {1001, -1001, Integer.MIN_VALUE, Integer.MAX_VALUE}) {
            Check.refuses("x", r, Check.ARGUMENT, x -> x.insertPoint(0, 0, n, 0));
            Check.refuses("y", r, Check.ARGUMENT, x -> x.insertPoint(0, 5, 0, n));
        }
        Check.same("at the limits", r.insertPoint(0, 5, 1000, -1000), 6);
        Check.same("at the limits", r.insertPoint(0, 6, -1000, 1000), 7);
    }

    /** "if the coastline has 129 points". */
    private static void insertedUpTo129() {
        for (String kind : new String[] {"shore", "island"}) {
            Ruler r = row(kind, 128);
            Check.refuses("at 129 of 128", r, Check.INDEX, x -> x.insertPoint(0, 129, 0, 0));
            Check.same("the 129th", r.insertPoint(0, 128, -7, 8), 129);
            Check.same("it", r.pointX(0, 128), -7);
            Check.refuses("at 0", r, Check.STATE, x -> x.insertPoint(0, 0, 0, 0));
            Check.refuses("at 129", r, Check.STATE, x -> x.insertPoint(0, 129, 0, 0));
            Check.refuses("at 130", r, Check.INDEX, x -> x.insertPoint(0, 130, 0, 0));
            Check.refuses("at 130, far out", r, Check.INDEX, x -> x.insertPoint(0, 130, 0, 1001));
            Check.refuses("far out", r, Check.ARGUMENT, x -> x.insertPoint(0, 0, 1001, 0));
            Check.refuses("far out", r, Check.ARGUMENT, x -> x.insertPoint(0, 129, 0, -1001));
            Check.same("one removed", r.removePoint(0, 0), 128);
            Check.same("one inserted", r.insertPoint(0, 0, 9, 9), 129);
        }
    }

    /** "if fewer points would be left than a shore (2) or an island (3) needs". */
    private static void removedAtTheEnds() {
        Ruler r = Check.with("map king;shore 1 9,2 8,3 7;island 1 6,2 5,3 4,4 3;");
        for (int point : new int[] {-1, 3, 4, Integer.MIN_VALUE, Integer.MAX_VALUE}) {
            Check.refuses("point " + point, r, Check.INDEX, x -> x.removePoint(0, point));
        }
        Ruler first = r.again();
        Check.same("the first", first.removePoint(0, 0) + first.removePoint(1, 0), 5);
        isNow("without the first", first, 0, "shore 2 8,3 7");
        isNow("without the first", first, 1, "island 2 5,3 4,4 3");
        Ruler inner = r.again();
        Check.same("an inner one", inner.removePoint(0, 1) + inner.removePoint(1, 2), 5);
        isNow("without an inner one", inner, 0, "shore 1 9,3 7");
        isNow("without an inner one", inner, 1, "island 1 6,2 5,4 3");
        Check.same("the last", r.removePoint(0, 2) + r.removePoint(1, 3), 5);
        isNow("without the last", r, 0, "shore 1 9,2 8");
        isNow("without the last", r, 1, "island 1 6,2 5,3 4");
        for (int point = 0; point < 2; point++) {
            int gone = point;
            Check.refuses("of a shore of 2", r, Check.STATE, x -> x.removePoint(0, gone));
            Check.refuses("of an island of 3", r, Check.STATE, x -> x.removePoint(1, gone + 1));
        }
        Check.refuses("no point of a shore of 2", r, Check.INDEX, x -> x.removePoint(0, 2));
        Check.refuses("no point of an island of 3", r, Check.INDEX, x -> x.removePoint(1, -1));
        Check.refuses("no coast", r, Check.INDEX, x -> x.removePoint(2, 0));
        Check.refuses("no coast", r, Check.INDEX, x -> x.removePoint(-1, 0));
    }

    // ---- shift, reverse, metric

    /** "-2000 to 2000". */
    private static void shiftsFromMinus2000To2000() {
        Ruler r = Check.with("map king;shore -1000 1000,-1000 1000;shore 0 0,1 1;");
        Check.same("2000, -2000", r.shift(0, 2000, -2000), 2);
        isNow("shifted", r, 0, "shore 1000 -1000,1000 -1000");
        Check.same("-2000, 2000", r.shift(0, -2000, 2000), 2);
        isNow("shifted", r, 0, "shore -1000 1000,-1000 1000");
        for (int n : new int[] {2001, -2001, Integer.MAX_VALUE, Integer.MIN_VALUE}) {
            Check.refuses("dx", r, Check.ARGUMENT, x -> x.shift(0, n, 0));
            Check.refuses("dy", r, Check.ARGUMENT, x -> x.shift(0, 0, n));
            Check.refuses("dy, and x too far", r, Check.ARGUMENT, x -> x.shift(1, 2000, n));
            Check.refuses("dx of none", r, Check.INDEX, x -> x.shift(2, n, 0));
            Check.refuses("dy of none", r, Check.INDEX, x -> x.shift(-1, 0, n));
        }
        Check.refuses("2000 too far", r, Check.STATE, x -> x.shift(1, 2000, 0));
        Check.refuses("-2000 too far", r, Check.STATE, x -> x.shift(1, 0, -2000));
        Check.same("not at all", r.shift(1, 0, 0), 2);
    }

    /** "if a coordinate would be out of range", be it that of the first or the last point. */
    private static void shiftedToTheLimits() {
        Ruler r = Check.with("map king;island -3 8,5 -9,0 0;shore 0 0,-3 -9;shore 5 8,0 0;");
        for (int[] each : new int[][] {{0, 995, 0}, {0, -997, 0}, {0, 0, 992}, {0, 0, -991},
            {1, -997, 0}, {1, 0, -991}, {2, 995, 0}, {2, 0, 992}, {0, 995, 992}, {0, -997, -991}}) {
            int dx = each[1];
            int dy = each[2];
            Ruler within = r.again();
            int points = within.shift(each[0], dx, dy);
            Check.same("the number of points", points, each[0] == 0 ? 3 : 2);
            Check.same("x of the last", within.pointX(each[0], points - 1),
                    r.pointX(each[0], points - 1) + dx);
            Check.same("y of the first", within.pointY(each[0], 0), r.pointY(each[0], 0) + dy);
            int moreX = dx + Integer.signum(dx);
            int moreY = dy + Integer.signum(dy);
            if (dx != 0) {
                Check.refuses("x beyond", r, Check.STATE, x -> x.shift(each[0], moreX, dy));
            }
            if (dy != 0) {
                Check.refuses("y beyond", r, Check.STATE, x -> x.shift(each[0], dx, moreY));
            }
        }
    }

    /** "The last point becomes point 0, also on an island." */
    private static void lastPointBecomesPoint0() {
        Ruler r = Check.with("map king;shore 1 2,3 4;shore 1 2,3 4,5 6;island 1 2,3 4,5 6;"
                + "island 1 2,3 4,5 6,7 8;");
        String[] due = {"shore 3 4,1 2", "shore 5 6,3 4,1 2", "island 5 6,3 4,1 2",
            "island 7 8,5 6,3 4,1 2"};
        int[] points = {2, 3, 3, 4};
        for (int coast = 0; coast < 4; coast++) {
            Check.same("the number of points", r.reverse(coast), points[coast]);
            isNow("reversed", r, coast, due[coast]);
        }
        Ruler many = row("island", 129);
        for (int i = 0; i < 3; i++) {
            Check.same("of 129", many.removePoint(0, i * 63), 128 - i);
        }
        Check.same("the rest", many.pointX(0, 0) + " " + many.pointX(0, 62) + " "
                + many.pointX(0, 63) + " " + many.pointX(0, 125), "1 63 65 127");
        Ruler full = row("island", 129);
        Check.same("129 points", full.reverse(0), 129);
        for (int i = 0; i < 129; i++) {
            Check.same("point " + i, full.pointX(0, i), 128 - i);
        }
        for (int coast : NO_COASTS) {
            Check.refuses("coast", new Ruler(), Check.INDEX, x -> x.reverse(coast));
        }
    }

    /** "whether the map used the king metric before". */
    private static void metricBefore() {
        Ruler r = new Ruler();
        boolean before = false;
        for (boolean next : new boolean[] {false, true, true, false, true, false, false}) {
            Check.same("before", r.setKingMetric(next), before);
            Check.same("after", r.usesKingMetric(), next);
            before = next;
        }
    }

    // ---- ledgers

    /** "when the latest map was loaded (or the ruler was created)"; "all ledgers restart". */
    private static void ledgersOfALoadedMap() {
        Ruler r = new Ruler();
        Check.same("created", Check.ledgers(r), "12+0-0 gap 0");
        r.fold(0, 1);
        r.removeCoast(1);
        Check.load(r, "map king;shore 1 2;");
        Check.same("a map with an error", Check.ledgers(r), "12+4-4 gap 0");
        Check.load(r, "map king;shore 1 2,3 4;island 0 0,1 1,2 2;");
        Check.same("a map", Check.ledgers(r), "5+0-0 gap 0");
        r.fold(0, 1);
        Check.same("changes do not count as loaded", Check.ledgers(r), "5+1-0 gap 0");
        r.saveSnapshot();
        r.removeCoast(0);
        r.restoreSnapshot();
        Check.same("a snapshot brings them back", Check.ledgers(r), "5+1-0 gap 0");
        Check.load(r, "map king;");
        Check.same("no points", Check.ledgers(r), "0+0-0 gap 0");
        Ruler most = Check.with("map king;" + (Check.row("shore", 33) + ";").repeat(3));
        Check.same("three times 33", Check.ledgers(most), "99+0-0 gap 0");
    }

    /** "the number of points added by addCoast, fold, insertPoint and scripts". */
    private static void addedPoints() {
        Check.Call[] calls = {x -> Check.add(x, "shore 1 1,2 2"),
            x -> Check.add(x, Check.row("island", 33)), x -> x.fold(0, 0), x -> x.fold(2, 0),
            x -> x.insertPoint(0, 0, 0, 0), x -> Check.run(x, "shore 1 1,2 2;"),
            x -> Check.run(x, "fold 0 0;fold 1 0;insert 0 0 0 0;island 0 0,1 1,2 2;"),
            x -> Check.run(x, "insert 0 0 0 0;fold 5 0;insert 0 0 0 0;"),
            x -> Check.run(x, "shore 1 1;"), x -> Check.add(x, "shore 1 1"), x -> x.reverse(0),
            x -> x.movePoint(0, 0, 1, 1), x -> x.shift(0, 1, 1), x -> x.setKingMetric(true)};
        int[] added = {2, 33, 4, 3, 1, 2, 12, 1, 0, 0, 0, 0, 0, 0};
        for (int i = 0; i < calls.length; i++) {
            Ruler r = new Ruler();
            calls[i].on(r);
            Check.same("call " + i, Check.ledgers(r), "12+" + added[i] + "-0 gap 0");
            if (r.undoableCount() > 0) {
                r.undo();
                Check.same("call " + i + " undone", Check.ledgers(r), "12+0-0 gap 0");
            }
        }
    }

    /** "the number of points removed by unfold, removePoint, removeCoast and scripts". */
    private static void removedPoints() {
        Check.Call[] calls = {x -> x.unfold(0), x -> x.removePoint(0, 0), x -> x.removeCoast(0),
            x -> x.removeCoast(2), x -> Check.run(x, "unfold 0;drop 1 0;remove 2;"),
            x -> Check.run(x, "drop 1 0;drop 1 0;remove 0;"), x -> Check.run(x, "remove 0")};
        int[] removed = {2, 1, 5, 3, 6, 1, 0};
        for (int i = 0; i < calls.length; i++) {
            Ruler r = new Ruler();
            calls[i].on(r);
            Check.same("call " + i, Check.ledgers(r), "12+0-" + removed[i] + " gap 0");
            if (r.undoableCount() > 0) {
                r.undo();
                Check.same("call " + i + " undone", Check.ledgers(r), "12+0-0 gap 0");
            }
        }
        Ruler both = new Ruler();
        Check.run(both, "fold 0 0;unfold 0;insert 0 0 0 0;drop 0 0;shore 1 1,2 2;remove 3;");
        Check.same("each command of a script counts", Check.ledgers(both), "12+7-7 gap 0");
    }

    /** "Changes that were undone do not count"; those that cannot be undone any more do. */
    private static void ledgersOfOldChanges() {
        Ruler r = new Ruler();
        for (int i = 0; i < 10; i++) {
            r.insertPoint(0, 0, 0, 0);
            r.removePoint(1, r.pointCount(1) - 1);
            r.insertPoint(1, 0, 0, 0);
        }
        Check.same("30 changes", Check.ledgers(r), "12+20-10 gap 0");
        while (r.undoableCount() > 0) {
            r.undo();
        }
        Check.same("22 changes", Check.ledgers(r), "12+15-7 gap 0");
        r.removeCoast(2);
        Check.same("another", Check.ledgers(r), "12+15-10 gap 0");
    }

    // ---- scripts

    /** "A script is parsed completely before its first command is executed." */
    private static void completelyParsed() {
        for (String last : new String[] {"reverse 6;", "fold 0 51;", "reverse 0", "x", "shore 0 0;",
            ";", "move 0 0 0 1001;"}) {
            Ruler r = new Ruler();
            String before = Check.map(r);
            Check.same("a script with an error at its end",
                    Check.run(r, "remove 0;metric king;fold 0 1;shore 1 1,2 2;" + last), -1);
            Check.same("no command is executed", Check.map(r) + Check.ledgers(r),
                    before + "12+0-0 gap 0");
            Check.same("it is no change", r.undoableCount(), 0);
        }
    }

    /** "Execution stops at the first command whose method would throw an exception". */
    private static void stopsAtTheFirstRefused() {
        String[] refused = {"fold 3 0", "fold 5 50", "unfold 3", "unfold 2", "move 3 0 0 0",
            "move 0 5 0 0", "move 2 3 0 0", "move 0 128 0 0", "insert 3 0 0 0", "insert 0 6 0 0",
            "insert 0 128 0 0", "drop 3 0", "drop 0 5", "drop 2 0", "shift 3 0 0",
            "shift 0 2000 0", "shift 0 0 -2000", "shift 0 981 0", "shift 0 0 -1001", "reverse 3",
            "reverse 5", "remove 3", "remove 5"};
        for (String command : refused) {
            Ruler r = new Ruler();
            Check.same(command, Check.run(r, command + ";metric king;remove 0;"), 0);
            Check.same(command + " has no error", Check.error(r), "0 at -1");
            Check.same(command + " does nothing", Check.map(r) + Check.ledgers(r),
                    Check.map(new Ruler()) + "12+0-0 gap 0");
            Check.same(command + " is a change", r.undoableCount(), 1);
            r = new Ruler();
            Check.same("two before " + command,
                    Check.run(r, "metric king;move 0 0 -1 -1;" + command + ";remove 0;"), 2);
            Check.same("they are executed", Check.map(r), Check.map(new Ruler())
                    .replace("taxicab", "king").replace("shore 0 0", "shore -1 -1"));
            Check.same("all is one change", r.undo(), 0);
            Check.same("all is undone", Check.map(r), Check.map(new Ruler()));
        }
    }

    /** The same at the limits of the map and of a coastline. */
    private static void stopsAtTheLimits() {
        Ruler r = new Ruler();
        Check.same("a seventh coast", Check.run(r, "shore 1 1,2 2;".repeat(4)), 3);
        Check.same("six", r.coastCount(), 6);
        Check.same("an island as seventh", Check.run(r, "island 1 1,2 2,3 3;metric king;"), 0);
        Check.same("one for another", Check.run(r, "remove 5;island 1 1,2 2,3 3;metric king;"), 3);
        Check.same("more than 129", Check.run(r, Check.row("shore", 33) + ";"), 0);
        Ruler full = Check.with("map king;");
        Check.same("129 points and no more", Check.run(full, Check.row("shore", 33)
                + ";fold 0 0;fold 0 0;fold 0 0;"), 3);
        Check.same("129", full.pointCount(0), 129);
        Check.same("no 130th", Check.run(full, "insert 0 128 0 0;"), 0);
        Check.same("one for another", Check.run(full, "drop 0 128;insert 0 128 7 7;fold 0 0;"), 2);
        Ruler high = Check.with("map king;shore 0 950,9 950;");
        Check.same("up to 1000", Check.run(high, "fold 0 50;fold 0 1;"), 2);
        high = Check.with("map king;shore 0 951,9 951;");
        Check.same("not above it", Check.run(high, "fold 0 50;metric king;"), 0);
        Check.same("the last two of a shore", Check.run(high, "drop 0 0;"), 0);
        Check.same("the widest shift", Check.run(Check.with("map king;shore -1000 0,-1000 1;"),
                "shift 0 2000 999;shift 0 0 1;"), 1);
    }

    /** "the number of commands that were executed": none to 20. */
    private static void twentyCommands() {
        for (int commands = 0; commands <= 20; commands++) {
            Ruler r = new Ruler();
            String script = "shift 0 1 0;".repeat(commands);
            Check.same(commands + " commands", Check.run(r, script), commands);
            Check.same("each is executed", r.pointX(0, 0), commands);
            Check.same("they are one change", r.undoableCount(), 1);
            Check.same("undone at once", r.undo(), 0);
            Check.same("undone at once", r.pointX(0, 0), 0);
        }
        Ruler r = new Ruler();
        Check.same("stopped at the 20th", Check.run(r, "shift 0 1 0;".repeat(19) + "reverse 5;"),
                19);
        Check.same("19 are executed", r.pointX(0, 0), 19);
    }

    /** "move, insert, drop, shift, fold, ... do what movePoint, insertPoint, ... do". */
    private static void commandsDoWhatTheirMethodsDo() {
        String[] commands = {"fold 1 -7;", "unfold 0;", "move 2 1 -1000 1000;", "insert 0 5 9 -9;",
            "insert 1 0 -9 9;", "drop 0 4;", "shift 2 -1000 900;", "reverse 1;", "remove 0;",
            "metric king;", "metric taxicab;", "island 1 2,3 4,5 6;", "shore -1 2,3 -4;"};
        Check.Call[] calls = {x -> x.fold(1, -7), x -> x.unfold(0),
            x -> x.movePoint(2, 1, -1000, 1000), x -> x.insertPoint(0, 5, 9, -9),
            x -> x.insertPoint(1, 0, -9, 9), x -> x.removePoint(0, 4),
            x -> x.shift(2, -1000, 900), x -> x.reverse(1), x -> x.removeCoast(0),
            x -> x.setKingMetric(true), x -> x.setKingMetric(false),
            x -> Check.add(x, "island 1 2,3 4,5 6"), x -> Check.add(x, "shore -1 2,3 -4")};
        for (int i = 0; i < commands.length; i++) {
            for (int j = 0; j < commands.length; j++) {
                Ruler script = new Ruler();
                Ruler one = new Ruler();
                script.setKingMetric(j % 2 == 0);
                one.setKingMetric(j % 2 == 0);
                int done = Check.run(script, commands[j] + commands[i]);
                try {
                    calls[j].on(one);
                    calls[i].on(one);
                    Check.same("both executed", done, 2);
                } catch (RuntimeException e) {
                    Check.same("one executed", done, 1);
                }
                Check.same(commands[j] + commands[i], Check.map(script) + Check.ledgers(script),
                        Check.map(one) + Check.ledgers(one));
                Ruler two = new Ruler();
                two.setKingMetric(j % 2 == 0);
                int each = Check.run(two, commands[j]) + Check.run(two, commands[i]);
                Check.same("in two scripts", each, done);
                Check.same("in two scripts", Check.map(two) + Check.ledgers(two),
                        Check.map(one) + Check.ledgers(one));
            }
        }
    }
}
