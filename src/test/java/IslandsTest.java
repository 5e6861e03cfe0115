/** Promises 27 to 34: areas, what lies in an island, boxes. */
public final class IslandsTest {
    public static void main(String[] args) {
        areas();
        insideASquare();
        insideOddShapes();
        encloses();
        innermost();
        boxes();
        wrongArguments();
        Check.finish();
    }

    private static void areas() {
        Ruler r = Check.with("map taxicab;island 0 0,4 0,4 4,0 4;island 0 0,0 4,4 4,4 0;"
                + "island 1 1,2 2,3 3;island -1000 -1000,1000 -1000,1000 1000,-1000 1000;"
                + "island 0 0,3 0,1 2;shore 0 0,4 0,4 4;");
        Check.same("counterclockwise", r.doubledArea(0), 32);
        Check.same("clockwise", r.doubledArea(1), 32);
        Check.same("flat", r.doubledArea(2), 0);
        Check.same("the greatest square", r.doubledArea(3), 8000000);
        Check.same("a triangle", r.doubledArea(4), 6);
        Check.same("counterclockwise", r.isCounterclockwise(0), true);
        Check.same("clockwise", r.isCounterclockwise(1), false);
        Check.same("flat", r.isCounterclockwise(2), false);
        r.reverse(0);
        Check.same("reversed", r.isCounterclockwise(0), false);
    }

    private static void insideASquare() {
        Ruler r = Check.with("map taxicab;island 0 0,4 0,4 4,0 4;");
        for (int x = -1; x <= 5; x++) {
            for (int y = -1; y <= 5; y++) {
                boolean due = x >= 0 && x <= 4 && y >= 0 && y <= 4;
                Check.same("contains " + x + " " + y, r.contains(0, x, y), due);
            }
        }
        Check.same("far away", r.contains(0, -1000, 1000), false);
        Check.same("far away", r.contains(0, 1000, -1000), false);
    }

    private static String rowInside(Ruler r, int coast, int y, int greatestX) {
        StringBuilder text = new StringBuilder();
        for (int x = -1; x <= greatestX; x++) {
            text.append(r.contains(coast, x, y) ? '#' : '.');
        }
        return text.toString();
    }

    private static void insideOddShapes() {
        // A W: its inner peak at 4 2 makes a notch from above.
        Ruler r = Check.with("map king;island 0 0,8 0,8 6,4 2,0 6;"
                + "island 0 0,6 0,6 6,0 6,0 0,6 0,6 6,0 6;island 0 0,6 0,3 3;island 2 1,7 1,2 1;");
        Check.same("row 0", rowInside(r, 0, 0, 9), ".#########.");
        Check.same("row 2", rowInside(r, 0, 2, 9), ".#########.");
        Check.same("row 3", rowInside(r, 0, 3, 9), ".####.####.");
        Check.same("row 5", rowInside(r, 0, 5, 9), ".##.....##.");
        Check.same("row 6", rowInside(r, 0, 6, 9), ".#.......#.");
        Check.same("row 7", rowInside(r, 0, 7, 9), "...........");
        Check.same("crossed twice", rowInside(r, 1, 3, 7), ".#.....#.");
        Check.same("crossed twice, on the edge", rowInside(r, 1, 6, 7), ".#######.");
        Check.same("slopes", rowInside(r, 2, 1, 7), "..#####..");
        Check.same("slopes", rowInside(r, 2, 3, 7), "....#....");
        Check.same("a flat island", rowInside(r, 3, 1, 9), "...######..");
        Check.same("beside a flat island", rowInside(r, 3, 2, 9), "...........");
        Ruler dot = Check.with("map king;island 3 3,3 3,3 3;");
        Check.same("the only position", dot.contains(0, 3, 3), true);
        Check.same("beside it", dot.contains(0, 2, 3), false);
        Ruler slope = Check.with("map king;island -1000 -1000,1000 1000,-1000 999;");
        Check.same("on a long segment", slope.contains(0, 7, 7), true);
        Check.same("left of it", slope.contains(0, 6, 7), true);
        Check.same("right of it", slope.contains(0, 8, 7), false);
        Check.same("near the tip", slope.contains(0, 999, 999), true);
        Check.same("near the tip", slope.contains(0, 998, 999), true);
        Check.same("above the slope", slope.contains(0, -1, 1000), false);
    }

    private static void encloses() {
        Ruler r = new Ruler();
        Check.same("around", r.encloses(1, 2), true);
        Check.same("within", r.encloses(2, 1), false);
        Check.same("itself", r.encloses(1, 1), false);
        Check.same("beside", r.encloses(1, 0), false);
        r.movePoint(2, 0, 30, 0);
        Check.same("on the corner", r.encloses(1, 2), true);
        r.movePoint(2, 0, 29, 0);
        Check.same("one point outside", r.encloses(1, 2), false);
        Ruler twins = Check.with("map king;island 0 0,4 0,4 4;island 4 4,0 0,4 0;");
        Check.same("each other", twins.encloses(0, 1) && twins.encloses(1, 0), true);
        Check.same("depth", twins.ringDepth(0) + twins.ringDepth(1), 2);
        Check.same("each around the other", twins.innermostIslandAround(0), 1);
        Check.same("each around the other", twins.innermostIslandAround(1), 0);
    }

    private static void innermost() {
        Ruler r = Check.with("map king;island 0 0,20 0,20 20,0 20;shore 9 9,10 10;"
                + "island 5 5,15 5,15 15,5 15;island 15 5,15 15,5 15,5 5;"
                + "island 8 8,11 8,11 11,8 11;"
                + "shore 0 0,20 20,21 20;");
        Check.same("the smallest", r.innermostIslandAround(1), 4);
        Check.same("of equal ones the first", r.innermostIslandAround(4), 2);
        Check.same("an island not around itself", r.innermostIslandAround(2), 3);
        Check.same("an island not around itself", r.innermostIslandAround(3), 2);
        Check.same("none around the greatest", r.innermostIslandAround(0), -1);
        Check.same("none around the last", r.innermostIslandAround(5), -1);
        int[] depths = {0, 4, 2, 2, 3, 0};
        for (int coast = 0; coast < 6; coast++) {
            Check.same("ringDepth " + coast, r.ringDepth(coast), depths[coast]);
        }
    }

    private static void boxes() {
        Ruler r = Check.with("map king;shore -1000 5,1000 -7,3 3;shore 4 4,4 4;"
                + "shore 900 -900,901 -902;");
        Check.same("width", r.boxWidth(0), 2000);
        Check.same("height", r.boxHeight(0), 12);
        Check.same("no width", r.boxWidth(1), 0);
        Check.same("no height", r.boxHeight(1), 0);
        Check.same("width far out", r.boxWidth(2), 1);
        Check.same("height far out", r.boxHeight(2), 2);
    }

    private static void wrongArguments() {
        Ruler r = new Ruler();
        for (int coast : new int[] {-1, 3, 6, Integer.MIN_VALUE, Integer.MAX_VALUE}) {
            Check.refuses("doubledArea", r, Check.INDEX, x -> x.doubledArea(coast));
            Check.refuses("isCounterclockwise", r, Check.INDEX, x -> x.isCounterclockwise(coast));
            Check.refuses("contains", r, Check.INDEX, x -> x.contains(coast, 1001, 0));
            Check.refuses("encloses", r, Check.INDEX, x -> x.encloses(coast, 0));
            Check.refuses("encloses", r, Check.INDEX, x -> x.encloses(0, coast));
            Check.refuses("encloses", r, Check.INDEX, x -> x.encloses(1, coast));
            Check.refuses("innermost", r, Check.INDEX, x -> x.innermostIslandAround(coast));
            Check.refuses("ringDepth", r, Check.INDEX, x -> x.ringDepth(coast));
            Check.refuses("boxWidth", r, Check.INDEX, x -> x.boxWidth(coast));
            Check.refuses("boxHeight", r, Check.INDEX, x -> x.boxHeight(coast));
        }
        Check.refuses("doubledArea", r, Check.STATE, x -> x.doubledArea(0));
        Check.refuses("isCounterclockwise", r, Check.STATE, x -> x.isCounterclockwise(0));
        Check.refuses("contains", r, Check.STATE, x -> x.contains(0, 1001, 0));
        Check.refuses("encloses", r, Check.STATE, x -> x.encloses(0, 1));
        Check.refuses("encloses", r, Check.STATE, x -> x.encloses(0, 0));
        Check.refuses("contains", r, Check.ARGUMENT, x -> x.contains(1, 1001, 0));
        Check.refuses("contains", r, Check.ARGUMENT, x -> x.contains(1, -1001, 0));
        Check.refuses("contains", r, Check.ARGUMENT, x -> x.contains(1, 0, 1001));
        Check.refuses("contains", r, Check.ARGUMENT, x -> x.contains(1, 0, -1001));
    }
}
