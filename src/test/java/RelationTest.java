/**
 * Each sentence that tells a method's answer by the answers of other methods, on many coastlines.
 * A ruler is left alone: what changes it is called on a twin.
 */
public final class RelationTest {
    private static long seed = 20;

    public static void main(String[] args) {
        for (int i = 0; i < 40; i++) {
            all(small());
            all(wide());
        }
        for (int i = 0; i < 12; i++) {
            all(folded());
        }
        all(Check.with("map king;"));
        Check.finish();
    }

    // ---- maps

    /** A number from 0 to bound - 1, the same ones in every run of this test. */
    private static int pick(int bound) {
        seed = seed * 6364136223846793005L + 1442695040888963407L;
        return (int) ((seed >>> 33) % bound);
    }

    private static String coast(int points, int reach) {
        boolean isIsland = points > 2 && pick(3) > 0;
        StringBuilder text = new StringBuilder(isIsland ? "island" : "shore");
        for (int i = 0; i < points; i++) {
            text.append(i == 0 ? " " : ",").append(pick(2 * reach + 1) - reach);
            text.append(' ').append(pick(2 * reach + 1) - reach);
        }
        return text.append(';').toString();
    }

    private static String metric() {
        return pick(2) == 0 ? "map king;" : "map taxicab;";
    }

    /** Up to 6 coastlines of a few points, near each other, so that much is equal. */
    private static Ruler small() {
        StringBuilder text = new StringBuilder(metric());
        int coasts = 1 + pick(6);
        int reach = 1 + pick(7);
        for (int i = 0; i < coasts; i++) {
            text.append(coast(2 + pick(10), reach));
        }
        return Check.with(text.toString());
    }

    /** Up to 3 coastlines that use all of the grid. */
    private static Ruler wide() {
        StringBuilder text = new StringBuilder(metric());
        int coasts = 1 + pick(3);
        for (int i = 0; i < coasts; i++) {
            text.append(coast(2 + pick(15), 1000));
        }
        return Check.with(text.toString());
    }

    /** A coastline of up to 129 points, and another one. */
    private static Ruler folded() {
        Ruler r = Check.with(metric() + coast(5 + pick(29), 40) + coast(5, 40));
        r.fold(0, pick(101) - 50);
        r.fold(0, pick(101) - 50);
        if (pick(2) == 0) {
            r.insertPoint(0, pick(r.pointCount(0)), pick(99), -pick(99));
        }
        return r;
    }

    private static void all(Ruler map) {
        textOfTheMap(map);
        wholeMap(map);
        history(map);
        int coasts = map.again().coastCount();
        for (int coast = 0; coast < coasts; coast++) {
            for (int level = 0; level <= 7; level++) {
                sticks(map.again(), coast, level);
            }
            gains(map.again(), coast);
            coarsest(map.again(), coast);
            written(map.again(), coast);
            nearest(map.again(), coast);
            box(map.again(), coast);
            islands(map, coast);
            folding(map, coast);
            withoutPoints(map, coast);
            otherMetric(map, coast);
            changes(map, coast);
        }
    }

    private static String state(Ruler r) {
        Ruler twin = r.again();
        return Check.map(twin) + Check.ledgers(twin);
    }

    // ---- the map as a whole

    /** A map that is written as a text and loaded is the same map. */
    private static void textOfTheMap(Ruler map) {
        String text = Check.map(map.again());
        if (text.length() <= 700 && map.again().removedPoints() + map.again().addedPoints() == 0) {
            Ruler loaded = new Ruler();
            Check.same("the answer of loadMap", Check.load(loaded, text), loaded.coastCount());
            Check.same("the loaded map", Check.map(loaded), text);
            Check.same("its points", loaded.loadedPoints(), map.again().loadedPoints());
        }
    }

    /** totalLength: "the sum of the lengths of all coastlines"; longestCoast; the ledgers. */
    private static void wholeMap(Ruler map) {
        Ruler r = map.again();
        int coasts = r.coastCount();
        for (int level = 0; level <= 7; level++) {
            int total = 0;
            int longest = -1;
            for (int coast = 0; coast < coasts; coast++) {
                total += r.lengthAt(coast, level);
                if (longest < 0 || r.lengthAt(coast, level) > r.lengthAt(longest, level)) {
                    longest = coast;
                }
            }
            Check.same("totalLength", r.totalLength(level), total);
            Check.same("longestCoast", r.longestCoast(level), longest);
        }
        int points = 0;
        for (int coast = 0; coast < coasts; coast++) {
            points += r.pointCount(coast);
        }
        Check.same("the ledgers", r.loadedPoints() + r.addedPoints() - r.removedPoints(), points);
        Check.same("ledgerGap", r.ledgerGap(), 0);
    }

    /** undo, undoableCount, saveSnapshot and restoreSnapshot, whatever was done before. */
    private static void history(Ruler map) {
        String before = state(map);
        Ruler r = map.again();
        int undoable = r.undoableCount();
        r.saveSnapshot();
        boolean wasKing = r.usesKingMetric();
        Check.same("setKingMetric", r.setKingMetric(!wasKing), wasKing);
        Check.same("undoableCount", r.undoableCount(), undoable + 1);
        Check.same("undo", r.undo(), undoable);
        Check.same("undone", state(r), before);
        for (int coast = r.coastCount() - 1; coast >= 0; coast--) {
            int points = r.pointCount(coast);
            Check.same("removeCoast", r.removeCoast(coast), points);
            Check.same("ledgerGap", r.ledgerGap(), 0);
        }
        Check.same("all are removed", r.removedPoints(), r.loadedPoints() + r.addedPoints());
        Check.same("addCoast", Check.add(r, "shore 1 2,3 4"), r.coastCount() - 1);
        Check.same("ledgerGap", r.ledgerGap(), 0);
        Check.same("restoreSnapshot", r.restoreSnapshot(), r.coastCount());
        Check.same("restored", state(r), before);
        Check.same("undoableCount", r.undoableCount(), 0);
    }

    // ---- sticks

    /** Promises 14 to 18 and 26 by pointDistance, stickStart and stickCount. */
    private static void sticks(Ruler r, int coast, int level) {
        String what = "at level " + level + " ";
        int behind = r.isIsland(coast) ? 0 : r.pointCount(coast) - 1;
        int sticks = r.stickCount(coast, level);
        int length = 0;
        int longest = 0;
        int longestLength = -1;
        int start = r.stickStart(coast, level, 0);
        for (int stick = 0; stick < sticks; stick++) {
            int end = stick + 1 < sticks ? r.stickStart(coast, level, stick + 1) : behind;
            int due = r.pointDistance(coast, start, end);
            Check.same(what + "stickStart", start, stick << level);
            Check.same(what + "stickLength", r.stickLength(coast, level, stick), due);
            length += due;
            if (due > longestLength) {
                longest = stick;
                longestLength = due;
            }
            start = end;
        }
        Check.same(what + "lengthAt", r.lengthAt(coast, level), length);
        Check.same(what + "longestStick", r.longestStick(coast, level), longest);
        Check.same(what + "meanStickLength", r.meanStickLength(coast, level),
                (float) length / (float) sticks);
    }

    /** lengthGain, levelOfGreatestGain and refinementRatio by lengthAt. */
    private static void gains(Ruler r, int coast) {
        int best = 0;
        for (int level = 0; level <= 6; level++) {
            int length = r.lengthAt(coast, level);
            int coarser = r.lengthAt(coast, level + 1);
            Check.same("lengthGain", r.lengthGain(coast, level), length - coarser);
            Check.same("never negative", length >= coarser, true);
            Check.same("refinementRatio", r.refinementRatio(coast, level),
                    coarser == 0 ? 0.0 : (double) length / (double) coarser);
            if (r.lengthGain(coast, level) > r.lengthGain(coast, best)) {
                best = level;
            }
        }
        Check.same("levelOfGreatestGain", r.levelOfGreatestGain(coast), best);
    }

    /** coarsestLevelFor and coarsestExactLevel by lengthAt. */
    private static void coarsest(Ruler r, int coast) {
        int exact = 0;
        for (int level = 0; level <= 7; level++) {
            int length = r.lengthAt(coast, level);
            exact = length == r.lengthAt(coast, 0) ? level : exact;
            for (int wanted = Math.max(0, length - 1); wanted <= length + 1; wanted++) {
                int due = -1;
                for (int other = 0; other <= 7; other++) {
                    due = r.lengthAt(coast, other) >= wanted ? other : due;
                }
                Check.same("coarsestLevelFor " + wanted, r.coarsestLevelFor(coast, wanted), due);
            }
        }
        Check.same("coarsestExactLevel", r.coarsestExactLevel(coast), exact);
    }

    /** writeLengths: "the lengths at level 0, 1 and so on in decimal, separated by spaces". */
    private static void written(Ruler r, int coast) {
        int enough = r.isIsland(coast) ? 2 : 1;
        StringBuilder due = new StringBuilder();
        for (int level = 0; level <= 7; level++) {
            due.append(level == 0 ? "" : " ").append(r.lengthAt(coast, level));
            if (r.stickCount(coast, level) <= enough) {
                break;
            }
        }
        Check.same("writeLengths", r.writeLengths(coast), due.length());
        Check.same("the output", Check.output(r), due.toString());
    }

    // ---- positions

    /** nearestPoint by movePoint, which answers with "the distance of the old and the new". */
    private static void nearest(Ruler r, int coast) {
        int points = r.pointCount(coast);
        int x = pick(41) - 20;
        int y = pick(2) == 0 ? pick(41) - 20 : pick(2001) - 1000;
        int nearest = 0;
        int least = Integer.MAX_VALUE;
        for (int point = 0; point < points; point++) {
            int way = r.movePoint(coast, point, x, y);
            r.undo();
            if (way < least) {
                nearest = point;
                least = way;
            }
        }
        Check.same("nearestPoint", r.nearestPoint(coast, x, y), nearest);
    }

    /** boxWidth: "the greatest x coordinate minus the smallest one"; boxHeight. */
    private static void box(Ruler r, int coast) {
        int points = r.pointCount(coast);
        int leastX = r.pointX(coast, 0);
        int leastY = r.pointY(coast, 0);
        int greatestX = leastX;
        int greatestY = leastY;
        for (int point = 1; point < points; point++) {
            int x = r.pointX(coast, point);
            int y = r.pointY(coast, point);
            leastX = Math.min(leastX, x);
            leastY = Math.min(leastY, y);
            greatestX = Math.max(greatestX, x);
            greatestY = Math.max(greatestY, y);
        }
        Check.same("boxWidth", r.boxWidth(coast), greatestX - leastX);
        Check.same("boxHeight", r.boxHeight(coast), greatestY - leastY);
    }

    /** Promises 27 to 32 by each other, by reverse and by shift. */
    private static void islands(Ruler map, int coast) {
        Ruler r = map.again();
        int islandsAround = 0;
        int innermost = -1;
        for (int island = 0; island < r.coastCount(); island++) {
            if (r.isIsland(island) && r.encloses(island, coast)) {
                islandsAround++;
                if (innermost < 0 || r.doubledArea(island) < r.doubledArea(innermost)) {
                    innermost = island;
                }
            }
        }
        Check.same("ringDepth", r.ringDepth(coast), islandsAround);
        Check.same("innermostIslandAround", r.innermostIslandAround(coast), innermost);
        if (r.isIsland(coast)) {
            enclosing(map.again(), coast);
            areas(map.again(), coast);
        }
    }

    /** encloses: "whether all points of the coastline lie in the island". */
    private static void enclosing(Ruler r, int island) {
        for (int coast = 0; coast < r.coastCount(); coast++) {
            boolean all = true;
            int points = r.pointCount(coast);
            for (int point = 0; point < points && points < 40; point++) {
                all &= r.contains(island, r.pointX(coast, point), r.pointY(coast, point));
            }
            if (points < 40) {
                Check.same("encloses", r.encloses(island, coast), all && island != coast);
                Check.same("its own points", island != coast || all, true);
            }
        }
    }

    private static void areas(Ruler r, int island) {
        int area = r.doubledArea(island);
        boolean turn = r.isCounterclockwise(island);
        Check.same("no area, no turn", turn && area == 0, false);
        r.reverse(island);
        Check.same("doubledArea reversed", r.doubledArea(island), area);
        Check.same("isCounterclockwise reversed", r.isCounterclockwise(island),
                area > 0 && !turn);
        r.insertPoint(island, 0, r.pointX(island, 0), r.pointY(island, 0));
        Check.same("doubledArea with a point twice", r.doubledArea(island), area);
    }

    // ---- what a change would do

    /** foldObstacle, lengthAfterFold and fold. */
    private static void folding(Ruler map, int coast) {
        int height = pick(101) - 50;
        Ruler r = map.again();
        int points = r.pointCount(coast);
        int segments = r.isIsland(coast) ? points : points - 1;
        int obstacle = r.foldObstacle(coast, height);
        Check.same("obstacle 1", obstacle == 1, points + segments > 129);
        if (obstacle > 0) {
            Check.same("lengthAfterFold", r.lengthAfterFold(coast, height, 0), -1);
            Check.refuses("fold", r, Check.STATE, x -> x.fold(coast, height));
            return;
        }
        Ruler after = map.again();
        String before = state(map);
        Check.same("fold", after.fold(coast, height), points + segments);
        for (int level = 0; level <= 7; level++) {
            Check.same("lengthAfterFold", r.lengthAfterFold(coast, height, level),
                    after.lengthAt(coast, level));
        }
        Check.same("level 1 is as level 0 was", after.lengthAt(coast, 1), r.lengthAt(coast, 0));
        Check.same("addedPoints", after.addedPoints(), r.addedPoints() + segments);
        Check.same("unfold", after.unfold(coast), points);
        Check.same("folded and unfolded", Check.map(after.again()), Check.map(map.again()));
        after.undo();
        after.undo();
        Check.same("undone", state(after), before);
    }

    /** lengthWithoutPoint, leastImportantPoint and removePoint. */
    private static void withoutPoints(Ruler map, int coast) {
        Ruler r = map.again();
        int points = Math.min(20, r.pointCount(coast));
        boolean isAll = points == r.pointCount(coast);
        boolean isPossible = r.pointCount(coast) > (r.isIsland(coast) ? 3 : 2);
        int least = -1;
        int greatest = -1;
        for (int point = 0; point < points; point++) {
            int gone = point;
            int length = r.lengthWithoutPoint(coast, point);
            if (isPossible) {
                Ruler after = map.again();
                Check.same("removePoint", after.removePoint(coast, point),
                        r.pointCount(coast) - 1);
                Check.same("lengthWithoutPoint", length, after.lengthAt(coast, 0));
            } else {
                Check.same("lengthWithoutPoint", length, -1);
                Check.refuses("removePoint", map, Check.STATE, x -> x.removePoint(coast, gone));
            }
            if (length > greatest) {
                least = point;
                greatest = length;
            }
        }
        if (isAll) {
            Check.same("leastImportantPoint", r.leastImportantPoint(coast), least);
        }
    }

    /** lengthInOtherMetric by setKingMetric and lengthAt. */
    private static void otherMetric(Ruler map, int coast) {
        Ruler r = map.again();
        Ruler other = map.again();
        other.setKingMetric(!other.usesKingMetric());
        for (int level = 0; level <= 7; level++) {
            Check.same("lengthInOtherMetric", r.lengthInOtherMetric(coast, level),
                    other.lengthAt(coast, level));
            Check.same("and back", other.lengthInOtherMetric(coast, level),
                    r.lengthAt(coast, level));
        }
    }

    // ---- changes

    /** What one change does, another takes back; each as a command too. */
    private static void changes(Ruler map, int coast) {
        Ruler r = map.again();
        int points = r.pointCount(coast);
        int point = pick(points);
        int x = r.pointX(coast, point);
        int y = r.pointY(coast, point);
        int newX = Math.min(1000, x + pick(9));
        int newY = Math.max(-1000, y - pick(9));
        String before = Check.map(map.again());
        Ruler moved = map.again();
        int way = moved.movePoint(coast, point, newX, newY);
        asCommand(map, "move " + coast + " " + point + " " + newX + " " + newY + ";", moved);
        Check.same("movePoint back", moved.movePoint(coast, point, x, y), way);
        Check.same("moved back", Check.map(moved.again()), before);
        Ruler reversed = map.again();
        Check.same("reverse", reversed.reverse(coast), points);
        Check.same("the last point", reversed.pointX(coast, points - 1), r.pointX(coast, 0));
        asCommand(map, "reverse " + coast + ";", reversed);
        reversed.reverse(coast);
        Check.same("reversed twice", Check.map(reversed.again()), before);
        if (points < 129) {
            Ruler inserted = map.again();
            Check.same("insertPoint", inserted.insertPoint(coast, point, newX, newY), points + 1);
            Check.same("the point moved back", inserted.pointX(coast, point + 1), x);
            asCommand(map, "insert " + coast + " " + point + " " + newX + " " + newY + ";",
                    inserted);
            Check.same("removePoint", inserted.removePoint(coast, point), points);
            Check.same("removed again", Check.map(inserted.again()), before);
        }
        shifting(map, coast, before);
    }

    /** shift is refused where the box would leave the grid, and there alone. */
    private static void shifting(Ruler map, int coast, String before) {
        int dx = pick(2) == 0 ? pick(21) - 10 : pick(4001) - 2000;
        int dy = pick(2) == 0 ? pick(21) - 10 : pick(4001) - 2000;
        Ruler r = map.again();
        boolean isWithin = true;
        int points = r.pointCount(coast);
        for (int point = 0; point < points; point++) {
            isWithin &= Math.abs(r.pointX(coast, point) + dx) <= 1000
                    && Math.abs(r.pointY(coast, point) + dy) <= 1000;
        }
        if (!isWithin) {
            Check.refuses("shift", map, Check.STATE, x -> x.shift(coast, dx, dy));
            return;
        }
        Ruler shifted = map.again();
        Check.same("shift", shifted.shift(coast, dx, dy), points);
        asCommand(map, "shift " + coast + " " + dx + " " + dy + ";", shifted);
        shifted.shift(coast, -dx, -dy);
        Check.same("shifted back", Check.map(shifted.again()), before);
    }

    private static void asCommand(Ruler map, String command, Ruler due) {
        Ruler r = map.again();
        Check.same(command, Check.run(r, command), 1);
        Check.same(command, state(r), state(due));
    }
}
