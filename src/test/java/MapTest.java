/** Promises 1 to 13: the new object, the texts, the points. */
public final class MapTest {
    private static final String FIRST_MAP = "map taxicab;shore 0 0,4 3,8 0,12 5,20 5;"
            + "island 30 0,50 0,50 20,30 20;island 35 5,45 5,40 15;";

    public static void main(String[] args) {
        newObject();
        appendText();
        loadMap();
        errors();
        errorsOfOtherCalls();
        coastCount();
        metric();
        pointQueries();
        pointDistance();
        nearestPoint();
        Check.finish();
    }

    private static void newObject() {
        Ruler r = new Ruler();
        Check.same("a new object", Check.map(r), FIRST_MAP);
        Check.same("a new object's ledgers", Check.ledgers(r), "12+0-0 gap 0");
        Check.same("a new object's error", Check.error(r), "0 at -1");
        Check.same("a new object's output", Check.output(r), "");
        Check.same("a new object's changes", r.undoableCount(), 0);
        Check.refuses("undo of a new object", r, Check.STATE, x -> x.undo());
        Check.refuses("restoreSnapshot of a new object", r, Check.STATE, x -> x.restoreSnapshot());
        Check.refuses("a new object's buffer", r, Check.ARGUMENT, x -> x.loadMap(1));
        Check.same("the first append", r.appendText(0, 0, 0, 0, 0), 20);
    }

    private static void appendText() {
        Ruler r = new Ruler();
        // "map king;shore 1 2,3", the most significant byte first
        Check.same("appendText", r.appendText(0x6d617020, 0x6b696e67, 0x3b73686f, 0x72652031,
                0x20322c33), 20);
        Check.same("appendText", r.appendText(0x2034203b, 0x20202020, 0x20202020, 0x20202020,
                0x20202020), 40);
        Check.same("loadMap", r.loadMap(40), 1);
        Check.same("the appended map", Check.map(r), "map king;shore 1 2,3 4;");
        for (int i = 1; i <= 35; i++) {
            Check.same("appendText " + i, r.appendText(0, 0, 0, 0, 0), 20 * i);
        }
        Check.same("appendText 36", r.appendText(0x20202020, 0, 0, 0, 0), -1);
        Check.same("appendText 37", r.appendText(0, 0, 0, 0, 0), -1);
        Check.refuses("loadMap of 701 bytes", r, Check.ARGUMENT, x -> x.loadMap(701));
        Check.same("loadMap of 700 bytes", r.loadMap(700), -1);
        Check.same("its error", Check.error(r), "1 at 0");
        Check.same("appendText after it", r.appendText(0, 0, 0, 0, 0), 20);
    }

    private static void loadMap() {
        Ruler r = new Ruler();
        r.reverse(0);
        r.saveSnapshot();
        Check.same("an empty map", Check.load(r, "map king;"), 0);
        Check.same("it", Check.map(r), "map king;");
        Check.same("its ledgers", Check.ledgers(r), "0+0-0 gap 0");
        Check.refuses("undo after loadMap", r, Check.STATE, x -> x.undo());
        Check.refuses("restoreSnapshot after loadMap", r, Check.STATE, x -> x.restoreSnapshot());

        r.setKingMetric(false);
        r.saveSnapshot();
        String before = Check.map(r);
        Check.same("a wrong map", Check.load(r, "map king;shore 0 0;"), -1);
        Check.same("the map after it", Check.map(r), before);
        Check.same("the changes after it", r.undoableCount(), 1);
        Check.same("the snapshot after it", r.restoreSnapshot(), 0);
        Check.same("the buffer after it", r.appendText(0, 0, 0, 0, 0), 20);

        Check.refuses("loadMap(-1)", r, Check.ARGUMENT, x -> x.loadMap(-1));
        Check.refuses("loadMap(21)", r, Check.ARGUMENT, x -> x.loadMap(21));
        Check.refuses("loadMap(2^31-1)", r, Check.ARGUMENT, x -> x.loadMap(Integer.MAX_VALUE));
        Check.same("the buffer after them", r.appendText(0, 0, 0, 0, 0), 40);
        Check.same("loadMap(0)", r.loadMap(0), -1);
        Check.same("its error", Check.error(r), "1 at 0");
        Check.same("the buffer after it", r.appendText(0, 0, 0, 0, 0), 20);

        Ruler six = Check.with("map taxicab;shore 0 0,0 0;island-1000-1000,1000 1000,0 0;"
                + Check.row("shore", 33) + ";" + Check.row("island", 33)
                + ";shore 1 1,2 2;shore 3 3,4 4;");
        Check.same("six coastlines", six.coastCount(), 6);
        Check.same("their points", six.loadedPoints(), 2 + 3 + 33 + 33 + 2 + 2);
        Check.same("the second", Check.points(six, 1), "island -1000 -1000,1000 1000,0 0");
        Check.same("the rest of the buffer is not read",
                six.loadMap(Check.feed(six, "map king;shore 9 9,9 9;x") - 1), 1);
        Check.same("half a number", six.loadMap(Check.feed(six, "map king;shore 0 0,1 1001") - 1),
                -1);
        Check.same("its error", Check.error(six), "1 at 24");
    }

    private static void mapError(String map, String due) {
        Ruler r = new Ruler();
        Check.same("loadMap of " + map, Check.load(r, map), -1);
        Check.same("the error of " + map, Check.error(r), due);
        Check.same("the map after " + map, Check.map(r), FIRST_MAP);
    }

    private static void errors() {
        mapError("", "1 at 0");
        mapError(" \n ", "1 at 3");
        mapError("chart king;", "1 at 0");
        mapError("maps king;", "1 at 0");
        mapError("nap king;", "1 at 0");
        mapError("map king;shote 0 0,1 1;", "1 at 9");
        mapError("Map king;", "1 at 0");
        mapError("map queen;", "1 at 4");
        mapError("map king", "1 at 8");
        mapError("map king,", "1 at 8");
        mapError("map king;;", "1 at 9");
        mapError("map king;fold 0 1;", "1 at 9");
        mapError("map king;shore", "1 at 14");
        mapError("map king;shore 0 0", "1 at 18");
        mapError("map king;shore 0 0;", "1 at 18");
        mapError("map king;shore 0 0,1 1", "1 at 22");
        mapError("map king;shore 0 0,1 1  ", "1 at 24");
        mapError("map king;shore 0 0,1;", "1 at 20");
        mapError("map king;shore 0 0,1 1,;", "1 at 23");
        mapError("map king;shore 0 0,1 1 1;", "1 at 23");
        mapError("map king;island 0 0,1 1;", "1 at 23");
        mapError("map king;shore 0 0 0 0;", "1 at 19");
        mapError("map king;shore 0 --1,1 1;", "1 at 18");
        mapError("map king;shore 0 -,1 1;", "1 at 18");
        mapError("map king;shore 0 x,1 1;", "1 at 17");
        mapError("map king;shore\t0 0,1 1;", "1 at 14");
        mapError("map king;shore 0 0,1 1;\u00e1", "1 at 23");
        mapError("map king;shore 1001 0,1 1;", "2 at 15");
        mapError("map king;shore 0 - 1001,1 1;", "2 at 19");
        mapError("map king;shore 0 99999999999999999999,1 1;", "2 at 17");
        mapError("map king;shore 0 4294967296,1 1;", "2 at 17");
        mapError("map king;shore 0 -18446744073709551616,1 1;", "2 at 18");

        String full = "map king;" + Check.row("shore", 33);
        int end = full.length();
        mapError(full + ",7 0;", "3 at " + (end + 1));
        mapError(full + ", -7 0;", "3 at " + (end + 2));
        mapError(full + ",-1001 0;", "3 at " + (end + 1));
        mapError(full + ",1000 0;", "3 at " + (end + 1));
        mapError(full + ",1001 0;", "2 at " + (end + 1));
        mapError(full + ",;", "1 at " + (end + 1));
        mapError(full + ",", "1 at " + (end + 1));

        String six = "map king;" + "shore 0 0,1 1;".repeat(6);
        mapError(six + " shore", "3 at " + (six.length() + 1));
        mapError(six + "island 0", "3 at " + six.length());
        mapError(six + "shores", "1 at " + six.length());
        mapError(six + "fold", "1 at " + six.length());
        mapError(six + ";", "1 at " + six.length());
        Check.with(six + " \n");
        Check.with("map\n\nking ;shore 000000000000000000001 0001000,-0 -1000;");
        Check.same("no spaces are needed",
                Check.map(Check.with("map king;shore0 0-5 6;".replace("0-5", "0,-5"))),
                "map king;shore 0 0,-5 6;");
        Check.same("a minus separates",
                Check.map(Check.with("map king;island-1-2,3-4,- 5\n-6;")),
                "map king;island -1 -2,3 -4,-5 -6;");
    }

    private static void errorsOfOtherCalls() {
        Ruler r = new Ruler();
        Check.run(r, "fold 0 51;");
        Check.same("a script's error", Check.error(r), "2 at 7");
        Check.refuses("runScript(1)", r, Check.ARGUMENT, x -> x.runScript(1));
        Check.add(r, "shore 0 0, ");
        Check.same("a coast's error", Check.error(r), "1 at 11");
        Check.refuses("addCoast(1)", r, Check.ARGUMENT, x -> x.addCoast(1));
        r.reverse(0);
        r.undo();
        Check.same("the error stays", Check.error(r), "1 at 11");
        Check.add(r, "shore 0 0,1 1");
        Check.same("a coast without error", Check.error(r), "0 at -1");
        Check.load(r, "x");
        Check.same("a map's error", Check.error(r), "1 at 0");
        Check.run(r, "");
        Check.same("a script without error", Check.error(r), "0 at -1");
        Check.run(r, "x");
        Check.load(r, "map king;");
        Check.same("a map without error", Check.error(r), "0 at -1");
    }

    private static void coastCount() {
        Ruler r = new Ruler();
        for (int i = 3; i < 6; i++) {
            Check.same("coastCount", r.coastCount(), i);
            Check.add(r, "shore 0 0,0 0");
        }
        Check.same("coastCount at most", r.coastCount(), 6);
        for (int i = 6; i > 0; i--) {
            Check.same("coastCount", r.coastCount(), i);
            r.removeCoast(0);
        }
        Check.same("coastCount at least", r.coastCount(), 0);
    }

    private static void metric() {
        Check.same("king", Check.with("map king;").usesKingMetric(), true);
        Check.same("taxicab", Check.with("map taxicab;").usesKingMetric(), false);
    }

    private static void pointQueries() {
        Ruler r = new Ruler();
        Check.same("isIsland", r.isIsland(0), false);
        Check.same("isIsland", r.isIsland(2), true);
        Check.same("pointCount", r.pointCount(0), 5);
        Check.same("pointCount", r.pointCount(2), 3);
        Check.same("pointX", r.pointX(0, 4), 20);
        Check.same("pointY", r.pointY(2, 2), 15);
        for (int coast : new int[] {-1, 3, 6, Integer.MIN_VALUE, Integer.MAX_VALUE}) {
            Check.refuses("isIsland", r, Check.INDEX, x -> x.isIsland(coast));
            Check.refuses("pointCount", r, Check.INDEX, x -> x.pointCount(coast));
            Check.refuses("pointX", r, Check.INDEX, x -> x.pointX(coast, 0));
            Check.refuses("pointY", r, Check.INDEX, x -> x.pointY(coast, 0));
            Check.refuses("pointDistance", r, Check.INDEX, x -> x.pointDistance(coast, 0, 0));
        }
        for (int point : new int[] {-1, 5, 129, Integer.MIN_VALUE, Integer.MAX_VALUE}) {
            Check.refuses("pointX", r, Check.INDEX, x -> x.pointX(0, point));
            Check.refuses("pointY", r, Check.INDEX, x -> x.pointY(0, point));
            Check.refuses("pointDistance", r, Check.INDEX, x -> x.pointDistance(0, point, 0));
            Check.refuses("pointDistance", r, Check.INDEX, x -> x.pointDistance(0, 0, point));
        }
        Check.grow(r, 0, 129);
        Check.same("the most points", r.pointCount(0), 129);
        Check.same("the last point", r.pointX(0, 128), 128);
        Check.refuses("pointX(0, 129)", r, Check.INDEX, x -> x.pointX(0, 129));
        r.removeCoast(2);
        Check.refuses("a removed coastline", r, Check.INDEX, x -> x.pointCount(2));
    }

    private static void pointDistance() {
        Ruler r = Check.with("map taxicab;shore -1000 1000,1000 -1000,999 0;");
        Check.same("taxicab", r.pointDistance(0, 0, 1), 4000);
        Check.same("taxicab", r.pointDistance(0, 2, 0), 2999);
        Check.same("the same point", r.pointDistance(0, 2, 2), 0);
        r.setKingMetric(true);
        Check.same("king", r.pointDistance(0, 0, 1), 2000);
        Check.same("king", r.pointDistance(0, 2, 0), 1999);
        Check.same("king", r.pointDistance(0, 1, 2), 1000);
    }

    private static void nearestPoint() {
        Ruler r = Check.with("map taxicab;shore 0 0,6 6,9 0,6 6;");
        Check.same("taxicab", r.nearestPoint(0, 1, 8), 1);
        Check.same("taxicab", r.nearestPoint(0, 1, 7), 1);
        Check.same("equally near", r.nearestPoint(0, 1, 5), 0);
        Check.same("far away", r.nearestPoint(0, 1000, -1000), 2);
        Check.same("far away", r.nearestPoint(0, -1000, 1000), 0);
        r.setKingMetric(true);
        Check.same("king", r.nearestPoint(0, 1, 5), 0);
        Check.same("king", r.nearestPoint(0, 6, 3), 1);
        Check.same("king", r.nearestPoint(0, 1, 6), 1);
        Check.refuses("nearestPoint", r, Check.INDEX, x -> x.nearestPoint(1, 1001, 0));
        Check.refuses("nearestPoint", r, Check.INDEX, x -> x.nearestPoint(-1, 0, 0));
        Check.refuses("nearestPoint", r, Check.ARGUMENT, x -> x.nearestPoint(0, 1001, 0));
        Check.refuses("nearestPoint", r, Check.ARGUMENT, x -> x.nearestPoint(0, -1001, 0));
        Check.refuses("nearestPoint", r, Check.ARGUMENT, x -> x.nearestPoint(0, 0, 1001));
        Check.refuses("nearestPoint", r, Check.ARGUMENT, x -> x.nearestPoint(0, 0, -1001));
    }
}
