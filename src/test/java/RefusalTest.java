import java.util.ArrayList;
import java.util.List;

/**
 * "A method that throws an exception changes nothing. If several exceptions apply, the one listed
 * first in the documentation of the method is thrown." Each refused call, on objects that have
 * much to lose.
 */
public final class RefusalTest {
    private record Row(String call, Class<?> due, Check.Call made) {
    }

    public static void main(String[] args) {
        Ruler small = small();
        Ruler full = full();
        refuseNoCoast("small", small, 3);
        refuseNoCoast("full", full, 6);
        refuseNoCoast("none", none(), 0);
        for (Row row : ofSmall()) {
            Check.refuses("small: " + row.call, small, row.due, row.made);
        }
        for (Row row : ofFull()) {
            Check.refuses("full: " + row.call, full, row.due, row.made);
        }
        refuseWhatIsNotThere();
        changesAfterRefusedOnes();
        Check.finish();
    }

    /** A shore, the smallest shore and the smallest island, with a past, and much beside it. */
    private static Ruler small() {
        Ruler r = Check.with("map taxicab;shore 0 0,4 3,8 0,12 5,20 5;shore -1000 5,1000 6;"
                + "island 30 0,50 0,50 1000;");
        r.movePoint(0, 0, 1, 1);
        r.saveSnapshot();
        r.setKingMetric(true);
        r.insertPoint(0, 5, 7, 7);
        Check.add(r, "island 1 1,2 2,3 3,4 4");
        r.removeCoast(3);
        r.writeLengths(0);
        Check.run(r, "reverse 0;fold 0 51;");
        Check.feed(r, "map taxicab;shore 7 8,9 10;island 1 2,3 4,5 6;");
        return r;
    }

    /** Six coastlines, 129 points, eight changes to undo, 700 bytes. */
    private static Ruler full() {
        Ruler r = Check.with("map king;" + Check.row("shore", 33) + ";shore 0 1000,9 1000;"
                + "island 1 1,2 2,3 3;island 1 1,2 2,3 3,4 4;shore 5 5,6 6;");
        r.fold(0, 3);
        r.fold(0, -2);
        r.saveSnapshot();
        for (int i = 0; i < 6; i++) {
            r.movePoint(4, 0, i, i);
        }
        r.setKingMetric(false);
        Check.add(r, "shore 8 8,9 9");
        r.writeLengths(3);
        Check.load(r, "map king");
        Check.feed(r, "shore 1 2,3 4" + " ".repeat(687));
        return r;
    }

    /** No coastline, and a snapshot of one that had some. */
    private static Ruler none() {
        Ruler r = new Ruler();
        r.saveSnapshot();
        r.writeLengths(2);
        r.removeCoast(0);
        r.removeCoast(0);
        r.removeCoast(0);
        Check.add(r, "shore 0 0,1");
        Check.feed(r, "shore 1 2,3 4");
        return r;
    }

    /** What no map allows: an index of no coastline, whatever the other arguments are. */
    private static void refuseNoCoast(String name, Ruler ruler, int coasts) {
        for (int coast : new int[] {-1, coasts, coasts + 1, 6, Integer.MIN_VALUE,
            Integer.MAX_VALUE}) {
            for (int n : new int[] {0, -1, Integer.MIN_VALUE, Integer.MAX_VALUE}) {
                for (Row row : ofNoCoast(coast, n)) {
                    Check.refuses(name + ": " + row.call + " of " + coast + " with " + n, ruler,
                            row.due, row.made);
                }
            }
        }
    }

    private static List<Row> ofNoCoast(int c, int n) {
        List<Row> rows = new ArrayList<>();
        Check.Call[] calls = {x -> x.isIsland(c), x -> x.pointCount(c), x -> x.pointX(c, n),
            x -> x.pointY(c, n), x -> x.pointDistance(c, n, n), x -> x.nearestPoint(c, n, n),
            x -> x.lengthAt(c, n), x -> x.stickCount(c, n), x -> x.stickStart(c, n, n),
            x -> x.stickLength(c, n, n), x -> x.longestStick(c, n), x -> x.lengthGain(c, n),
            x -> x.levelOfGreatestGain(c), x -> x.coarsestLevelFor(c, n),
            x -> x.coarsestExactLevel(c), x -> x.refinementRatio(c, n),
            x -> x.meanStickLength(c, n), x -> x.doubledArea(c), x -> x.isCounterclockwise(c),
            x -> x.contains(c, n, n), x -> x.encloses(c, n), x -> x.encloses(c, 0),
            x -> x.encloses(0, c), x -> x.encloses(1, c), x -> x.encloses(2, c),
            x -> x.innermostIslandAround(c), x -> x.ringDepth(c), x -> x.boxWidth(c),
            x -> x.boxHeight(c), x -> x.foldObstacle(c, n), x -> x.lengthAfterFold(c, n, n),
            x -> x.lengthWithoutPoint(c, n), x -> x.leastImportantPoint(c),
            x -> x.lengthInOtherMetric(c, n), x -> x.removeCoast(c), x -> x.fold(c, n),
            x -> x.unfold(c), x -> x.movePoint(c, n, n, n), x -> x.insertPoint(c, n, n, n),
            x -> x.removePoint(c, n), x -> x.shift(c, n, n), x -> x.reverse(c),
            x -> x.writeLengths(c)};
        for (int i = 0; i < calls.length; i++) {
            rows.add(new Row("call " + i, Check.INDEX, calls[i]));
        }
        return rows;
    }

    private static List<Row> ofSmall() {
        List<Row> rows = new ArrayList<>(textRows(60));
        int[] points = {6, 2, 3};
        for (int coast = 0; coast < 3; coast++) {
            rows.addAll(pointRows(coast, points[coast]));
            rows.addAll(argumentRows(coast));
        }
        rows.addAll(shoreRows(0, 2));
        rows.addAll(shoreRows(1, 2));
        add(rows, Check.STATE, x -> x.removePoint(1, 0), x -> x.removePoint(1, 1),
                x -> x.removePoint(2, 0), x -> x.removePoint(2, 1), x -> x.removePoint(2, 2),
                x -> x.unfold(1), x -> x.unfold(2), x -> x.shift(1, 1, 0),
                x -> x.shift(1, -1, 0), x -> x.shift(1, 2000, 2000), x -> x.shift(2, 0, 1),
                x -> x.shift(2, 0, -1001), x -> x.shift(0, -1002, 0), x -> x.shift(0, 981, 0));
        return rows;
    }

    private static List<Row> ofFull() {
        List<Row> rows = new ArrayList<>(textRows(700));
        rows.addAll(pointRows(0, 129));
        rows.addAll(argumentRows(0));
        rows.addAll(argumentRows(1));
        rows.addAll(shoreRows(0, 3));
        rows.addAll(shoreRows(5, 2));
        add(rows, Check.STATE, x -> x.addCoast(13), x -> x.addCoast(0), x -> x.addCoast(700),
                x -> x.fold(0, 0), x -> x.fold(0, 50), x -> x.fold(0, -50), x -> x.fold(1, 1),
                x -> x.fold(1, 50), x -> x.unfold(1), x -> x.unfold(2), x -> x.unfold(3),
                x -> x.insertPoint(0, 0, 0, 0), x -> x.insertPoint(0, 129, 1000, -1000),
                x -> x.insertPoint(0, 64, -1000, 1000), x -> x.removePoint(1, 0),
                x -> x.removePoint(2, 2), x -> x.shift(1, 0, 1), x -> x.shift(0, 2000, 0));
        return rows;
    }

    private static void add(List<Row> rows, Class<?> due, Check.Call... calls) {
        for (Check.Call call : calls) {
            rows.add(new Row("row " + rows.size(), due, call));
        }
    }

    /** Lengths of a text, where the buffer holds this many bytes. */
    private static List<Row> textRows(int held) {
        List<Row> rows = new ArrayList<>();
        for (int n : new int[] {-1, held + 1, held + 20, Integer.MIN_VALUE, Integer.MAX_VALUE}) {
            add(rows, Check.ARGUMENT, x -> x.loadMap(n), x -> x.addCoast(n), x -> x.runScript(n));
        }
        return rows;
    }

    /** Indexes of no point of a coastline, also where another argument is wrong. */
    private static List<Row> pointRows(int c, int points) {
        List<Row> rows = new ArrayList<>();
        for (int n : new int[] {-1, points, points + 1, Integer.MIN_VALUE, Integer.MAX_VALUE}) {
            add(rows, Check.INDEX, x -> x.pointX(c, n), x -> x.pointY(c, n),
                    x -> x.pointDistance(c, n, 0), x -> x.pointDistance(c, 0, n),
                    x -> x.lengthWithoutPoint(c, n), x -> x.movePoint(c, n, 0, 0),
                    x -> x.movePoint(c, n, 1001, 0), x -> x.movePoint(c, n, 0, -1001),
                    x -> x.removePoint(c, n));
            int far = n == points ? -2 : n;
            add(rows, Check.INDEX, x -> x.insertPoint(c, far, 0, 0),
                    x -> x.insertPoint(c, far, 1001, 0), x -> x.insertPoint(c, far, 0, -1001));
        }
        return rows;
    }

    /** Arguments out of range, also where the change would not be possible either. */
    private static List<Row> argumentRows(int c) {
        List<Row> rows = new ArrayList<>();
        for (int n : new int[] {-1, 8, Integer.MIN_VALUE, Integer.MAX_VALUE}) {
            add(rows, Check.ARGUMENT, x -> x.lengthAt(c, n), x -> x.stickCount(c, n),
                    x -> x.stickStart(c, n, 0), x -> x.stickLength(c, n, 0),
                    x -> x.longestStick(c, n), x -> x.totalLength(n), x -> x.longestCoast(n),
                    x -> x.meanStickLength(c, n), x -> x.lengthAfterFold(c, 0, n),
                    x -> x.lengthInOtherMetric(c, n));
        }
        for (int n : new int[] {-1, 7, 8, Integer.MIN_VALUE, Integer.MAX_VALUE}) {
            add(rows, Check.ARGUMENT, x -> x.lengthGain(c, n), x -> x.refinementRatio(c, n));
        }
        for (int n : new int[] {-1, 1, 128, Integer.MIN_VALUE, Integer.MAX_VALUE}) {
            add(rows, Check.ARGUMENT, x -> x.stickStart(c, 7, n), x -> x.stickLength(c, 7, n));
        }
        for (int n : new int[] {51, -51, Integer.MIN_VALUE, Integer.MAX_VALUE}) {
            add(rows, Check.ARGUMENT, x -> x.fold(c, n), x -> x.foldObstacle(c, n),
                    x -> x.lengthAfterFold(c, n, 0), x -> x.lengthAfterFold(c, n, 8));
        }
        for (int n : new int[] {1001, -1001, Integer.MIN_VALUE, Integer.MAX_VALUE}) {
            add(rows, Check.ARGUMENT, x -> x.nearestPoint(c, n, 0), x -> x.nearestPoint(c, 0, n),
                    x -> x.movePoint(c, 0, n, 0), x -> x.movePoint(c, 1, 0, n),
                    x -> x.insertPoint(c, 0, n, 0), x -> x.insertPoint(c, 2, 0, n));
        }
        for (int n : new int[] {2001, -2001, Integer.MIN_VALUE, Integer.MAX_VALUE}) {
            add(rows, Check.ARGUMENT, x -> x.shift(c, n, 0), x -> x.shift(c, 0, n),
                    x -> x.shift(c, 2000, n), x -> x.shift(c, n, -2000));
        }
        add(rows, Check.ARGUMENT, x -> x.coarsestLevelFor(c, -1),
                x -> x.coarsestLevelFor(c, Integer.MIN_VALUE));
        return rows;
    }

    /** What only an island can be asked; a wrong index comes first, a wrong position later. */
    private static List<Row> shoreRows(int c, int island) {
        List<Row> rows = new ArrayList<>();
        add(rows, Check.STATE, x -> x.doubledArea(c), x -> x.isCounterclockwise(c),
                x -> x.encloses(c, island), x -> x.encloses(c, c), x -> x.contains(c, 0, 0),
                x -> x.contains(c, 1001, 0), x -> x.contains(c, 0, -1001));
        add(rows, Check.INDEX, x -> x.encloses(c, -1), x -> x.encloses(c, 6),
                x -> x.encloses(6, c));
        for (int n : new int[] {1001, -1001, Integer.MIN_VALUE, Integer.MAX_VALUE}) {
            add(rows, Check.ARGUMENT, x -> x.contains(island, n, 0),
                    x -> x.contains(island, 0, n));
        }
        return rows;
    }

    /** No byte behind the output, nothing to undo and no snapshot, and all else in its place. */
    private static void refuseWhatIsNotThere() {
        Ruler r = small();
        Check.same("the buffer is emptied", r.loadMap(0), -1);
        Check.same("a map is loaded", Check.load(r, "map taxicab;shore 0 0,4 3,8 0;"), 1);
        Check.refuses("undo", r, Check.STATE, x -> x.undo());
        Check.refuses("restoreSnapshot", r, Check.STATE, x -> x.restoreSnapshot());
        Check.run(r, "reverse 1");
        Check.feed(r, "map taxicab;shore 7 8,9 10;");
        Check.refuses("undo", r, Check.STATE, x -> x.undo());
        r.fold(0, 4);
        Check.refuses("restoreSnapshot", r, Check.STATE, x -> x.restoreSnapshot());
        r.saveSnapshot();
        r.undo();
        Check.refuses("undo", r, Check.STATE, x -> x.undo());
        int length = Check.output(r).length();
        for (int n : new int[] {-1, length, length + 1, Integer.MIN_VALUE, Integer.MAX_VALUE}) {
            Check.refuses("byte " + n, r, Check.INDEX, x -> x.outputByte(n));
        }
    }

    /** What follows a refused change is as if that had never been asked for. */
    private static void changesAfterRefusedOnes() {
        Ruler r = small();
        Ruler twin = small();
        Check.Call[] refused = {x -> x.fold(0, 51), x -> x.removePoint(3, 0),
            x -> x.shift(1, 1, 0), x -> x.addCoast(61), x -> x.insertPoint(0, -1, 0, 0),
            x -> x.unfold(5), x -> x.outputByte(99), x -> x.removeCoast(3)};
        Check.Call[] good = {x -> x.fold(0, 5), x -> x.removePoint(0, 3), x -> x.reverse(2),
            x -> x.shift(1, 0, 9), x -> x.insertPoint(2, 3, 8, 9), x -> x.unfold(0),
            x -> x.removeCoast(1), x -> x.setKingMetric(false)};
        for (int i = 0; i < good.length; i++) {
            try {
                refused[i].on(r);
                Check.same("call " + i, "answered", "refused");
            } catch (IndexOutOfBoundsException | IllegalArgumentException
                    | IllegalStateException e) {
                good[i].on(r);
            }
            good[i].on(twin);
            Check.same("change " + i + " after a refused one", Check.map(r) + Check.ledgers(r),
                    Check.map(twin) + Check.ledgers(twin));
        }
        for (int left = 7; left >= 0; left--) {
            Check.same("undo", r.undo(), left);
            twin.undo();
            Check.same("undone", r.lengthAt(0, 0), twin.lengthAt(0, 0));
        }
        Check.same("all undone", Check.map(r) + Check.ledgers(r),
                Check.map(twin) + Check.ledgers(twin));
    }
}
