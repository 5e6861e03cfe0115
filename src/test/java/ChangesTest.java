/** Promises 44 to 54: the changes, each by itself and as a command of a script. */
public final class ChangesTest {
    public static void main(String[] args) {
        addCoast();
        addCoastErrors();
        removeCoast();
        fold();
        foldAtTheLimits();
        unfold();
        movePoint();
        insertPoint();
        removePoint();
        shift();
        reverse();
        setKingMetric();
        scripts();
        stoppedScripts();
        scriptErrors();
        longScripts();
        Check.finish();
    }

    private static void addCoast() {
        Ruler r = new Ruler();
        Check.same("a shore", Check.add(r, "shore 1 2,-3 -4"), 3);
        Check.same("it", Check.points(r, 3), "shore 1 2,-3 -4");
        Check.same("an island", Check.add(r, " " + Check.row("island", 33) + "\n"), 4);
        Check.same("its points", r.pointCount(4), 33);
        Check.same("the buffer after it", r.appendText(0, 0, 0, 0, 0), 20);
        Check.refuses("length -1", r, Check.ARGUMENT, x -> x.addCoast(-1));
        Check.refuses("length 21", r, Check.ARGUMENT, x -> x.addCoast(21));
        Check.same("the buffer after them", r.appendText(0, 0, 0, 0, 0), 40);
        Check.same("a wrong coast", r.addCoast(40), -1);
        Check.same("the sixth", Check.add(r, "shore 5 5,5 5"), 5);
        Check.same("the changes", r.undoableCount(), 3);
        Check.feed(r, "shore 6 6,6 6");
        Check.refuses("a seventh", r, Check.STATE, x -> x.addCoast(13));
        Check.refuses("a wrong seventh", r, Check.STATE, x -> x.addCoast(1));
        Check.refuses("length 21", r, Check.ARGUMENT, x -> x.addCoast(21));
        r.removeCoast(0);
        Check.same("the buffer is as before", r.addCoast(13), 5);
        Check.same("it", Check.points(r, 5), "shore 6 6,6 6");
        Ruler none = Check.with("map king;");
        Check.same("the first", Check.add(none, "shore 6 6,6 6"), 0);
    }

    private static void addError(String coast, String due) {
        Ruler r = new Ruler();
        r.reverse(0);
        String before = Check.map(r) + Check.ledgers(r);
        Check.same("addCoast of " + coast, Check.add(r, coast), -1);
        Check.same("the error of " + coast, Check.error(r), due);
        Check.same("the map after " + coast, Check.map(r) + Check.ledgers(r), before);
        Check.same("the changes after " + coast, r.undoableCount(), 1);
        Check.same("the buffer after " + coast, r.appendText(0, 0, 0, 0, 0), 20);
    }

    private static void addCoastErrors() {
        addError("", "1 at 0");
        addError("shore 0 0", "1 at 9");
        addError("shore 0 0,1 1;", "1 at 13");
        addError("shore 0 0,1 1 shore", "1 at 14");
        addError("shore 0 0,1 1-", "1 at 13");
        addError("island 0 0,1 1", "1 at 14");
        addError("map king;", "1 at 0");
        addError("fold 0 1", "1 at 0");
        addError("shore 0 0,1 1001", "2 at 12");
        addError("shore 0 0,-1001 1", "2 at 11");
        String full = Check.row("island", 33);
        addError(full + ",0 0", "3 at " + (full.length() + 1));
    }

    private static void removeCoast() {
        Ruler r = new Ruler();
        Check.same("removeCoast", r.removeCoast(1), 4);
        Check.same("the rest", Check.map(r),
                "map taxicab;shore 0 0,4 3,8 0,12 5,20 5;island 35 5,45 5,40 15;");
        Check.refuses("coast 2", r, Check.INDEX, x -> x.removeCoast(2));
        Check.refuses("coast -1", r, Check.INDEX, x -> x.removeCoast(-1));
        Check.same("the last", r.removeCoast(1), 3);
        Check.same("the only one", r.removeCoast(0), 5);
        Check.refuses("of none", r, Check.INDEX, x -> x.removeCoast(0));
        r.undo();
        r.undo();
        Check.same("brought back", Check.map(r),
                "map taxicab;shore 0 0,4 3,8 0,12 5,20 5;island 35 5,45 5,40 15;");
    }

    private static void fold() {
        Ruler r = Check.with("map king;shore 0 0,4 0,4 6,-1 6;island 0 0,3 3,-3 -4;"
                + "shore -1 -1,-2 -4;");
        Check.same("fold of a shore", r.fold(0, 2), 7);
        Check.same("it", Check.points(r, 0), "shore 0 0,2 2,4 0,2 3,4 6,1 8,-1 6");
        Check.same("fold of an island", r.fold(1, 10), 6);
        Check.same("it", Check.points(r, 1), "island 0 0,1 11,3 3,-10 -1,-3 -4,8 -2");
        Check.same("rounded down", r.fold(2, -3), 3);
        Check.same("it", Check.points(r, 2), "shore -1 -1,-5 -3,-2 -4");
        Check.refuses("height 51", r, Check.ARGUMENT, x -> x.fold(0, 51));
        Check.refuses("height -51", r, Check.ARGUMENT, x -> x.fold(0, -51));
        Check.refuses("coast 3", r, Check.INDEX, x -> x.fold(3, 51));
        Check.refuses("coast -1", r, Check.INDEX, x -> x.fold(-1, 0));
    }

    private static void foldAtTheLimits() {
        Ruler shore = Check.with("map king;shore 0 0,1 0;");
        Check.grow(shore, 0, 66);
        Check.refuses("a shore of 66", shore, Check.STATE, x -> x.fold(0, 0));
        shore.removePoint(0, 0);
        Check.same("a shore of 65", shore.fold(0, 50), 129);
        Check.refuses("a full shore", shore, Check.STATE, x -> x.fold(0, 0));
        Check.refuses("a full shore", shore, Check.ARGUMENT, x -> x.fold(0, 51));
        Ruler island = Check.with("map king;island 0 0,1 0,2 0;");
        Check.grow(island, 0, 65);
        Check.refuses("an island of 65", island, Check.STATE, x -> x.fold(0, 0));
        island.removePoint(0, 0);
        Check.same("an island of 64", island.fold(0, -50), 128);
        Check.refuses("an island of 128", island, Check.STATE, x -> x.fold(0, 0));
        Ruler r = Check.with("map king;shore 0 960,8 960;shore -960 0,-960 8;");
        Check.refuses("above 1000", r, Check.STATE, x -> x.fold(0, 41));
        Check.same("up to 1000", r.fold(0, 40), 3);
        Check.same("it", Check.points(r, 0), "shore 0 960,4 1000,8 960");
        Check.refuses("beyond -1000", r, Check.STATE, x -> x.fold(1, -41));
        Check.same("up to -1000", r.fold(1, -40), 3);
        Check.same("it", Check.points(r, 1), "shore -960 0,-1000 4,-960 8");
    }

    private static void unfold() {
        Ruler r = Check.with("map king;shore 0 0,1 0,2 5,3 0;island 0 0,1 0,2 0,3 0,4 9,5 0;"
                + "shore 0 0,1 1,2 2;island 0 0,1 1,2 2,3 3;island 0 0,1 1,2 2,3 3,4 4;");
        Check.same("a shore of 4", r.unfold(0), 2);
        Check.same("it", Check.points(r, 0), "shore 0 0,2 5");
        Check.same("an island of 6", r.unfold(1), 3);
        Check.same("it", Check.points(r, 1), "island 0 0,2 0,4 9");
        Check.same("a shore of 3", r.unfold(2), 2);
        Check.refuses("a shore of 2", r, Check.STATE, x -> x.unfold(2));
        Check.refuses("an island of 4", r, Check.STATE, x -> x.unfold(3));
        Check.same("an island of 5", r.unfold(4), 3);
        Check.refuses("an island of 3", r, Check.STATE, x -> x.unfold(4));
        Check.refuses("coast 5", r, Check.INDEX, x -> x.unfold(5));
        Check.grow(r, 0, 129);
        Check.same("a full shore", r.unfold(0), 65);
        Check.same("its last point", r.pointX(0, 64), 128);
    }

    private static void movePoint() {
        Ruler r = new Ruler();
        Check.same("taxicab", r.movePoint(0, 1, 14, 0), 13);
        Check.same("it", Check.points(r, 0), "shore 0 0,14 0,8 0,12 5,20 5");
        Check.same("to its own place", r.movePoint(0, 1, 14, 0), 0);
        r.setKingMetric(true);
        Check.same("king", r.movePoint(2, 2, -1000, 1000), 1040);
        Check.same("king", r.movePoint(2, 2, 1000, -1000), 2000);
        Check.same("it", Check.points(r, 2), "island 35 5,45 5,1000 -1000");
        Check.refuses("coast 3", r, Check.INDEX, x -> x.movePoint(3, 0, 1001, 0));
        Check.refuses("point 5", r, Check.INDEX, x -> x.movePoint(0, 5, 1001, 0));
        Check.refuses("point -1", r, Check.INDEX, x -> x.movePoint(0, -1, 0, 0));
        Check.refuses("x 1001", r, Check.ARGUMENT, x -> x.movePoint(0, 0, 1001, 0));
        Check.refuses("x -1001", r, Check.ARGUMENT, x -> x.movePoint(0, 0, -1001, 0));
        Check.refuses("y 1001", r, Check.ARGUMENT, x -> x.movePoint(0, 0, 0, 1001));
        Check.refuses("y -2^31", r, Check.ARGUMENT, x -> x.movePoint(0, 0, 0, Integer.MIN_VALUE));
    }

    private static void insertPoint() {
        Ruler r = Check.with("map king;shore 0 0,1 0;island 0 0,1 0,2 0;");
        Check.same("at the front", r.insertPoint(0, 0, -1000, 1000), 3);
        Check.same("between", r.insertPoint(0, 1, 7, 8), 4);
        Check.same("at the end", r.insertPoint(0, 4, 1000, -1000), 5);
        Check.same("it", Check.points(r, 0), "shore -1000 1000,7 8,0 0,1 0,1000 -1000");
        Check.refuses("coast 2", r, Check.INDEX, x -> x.insertPoint(2, 0, 1001, 0));
        Check.refuses("point 6", r, Check.INDEX, x -> x.insertPoint(0, 6, 1001, 0));
        Check.refuses("point -1", r, Check.INDEX, x -> x.insertPoint(0, -1, 0, 0));
        Check.refuses("x 1001", r, Check.ARGUMENT, x -> x.insertPoint(0, 0, 1001, 0));
        Check.refuses("y -1001", r, Check.ARGUMENT, x -> x.insertPoint(0, 0, 0, -1001));
        Check.grow(r, 0, 128);
        Check.same("the 129th", r.insertPoint(0, 0, 5, 5), 129);
        Check.refuses("the 130th", r, Check.STATE, x -> x.insertPoint(0, 129, 0, 0));
        Check.refuses("the 130th", r, Check.STATE, x -> x.insertPoint(0, 0, 0, 0));
        Check.refuses("the 130th", r, Check.ARGUMENT, x -> x.insertPoint(0, 0, 0, 1001));
        Check.refuses("the 130th", r, Check.INDEX, x -> x.insertPoint(0, 130, 0, 1001));
    }

    private static void removePoint() {
        Ruler r = Check.with("map king;shore 0 0,1 0,2 0,3 0,4 0;island 0 0,1 0,2 0,3 0;");
        Check.same("the first", r.removePoint(0, 0), 4);
        Check.same("an inner one", r.removePoint(0, 1), 3);
        Check.same("the last", r.removePoint(0, 2), 2);
        Check.same("it", Check.points(r, 0), "shore 1 0,3 0");
        Check.refuses("of a shore of 2", r, Check.STATE, x -> x.removePoint(0, 1));
        Check.refuses("point 2", r, Check.INDEX, x -> x.removePoint(0, 2));
        Check.refuses("point -1", r, Check.INDEX, x -> x.removePoint(0, -1));
        Check.refuses("coast 2", r, Check.INDEX, x -> x.removePoint(2, 0));
        Check.same("of an island of 4", r.removePoint(1, 3), 3);
        Check.refuses("of an island of 3", r, Check.STATE, x -> x.removePoint(1, 0));
        Check.grow(r, 0, 129);
        Check.same("of a full shore", r.removePoint(0, 128), 128);
        Check.same("of a full shore", r.removePoint(0, 0), 127);
    }

    private static void shift() {
        Ruler r = new Ruler();
        Check.same("shift", r.shift(0, 980, -1000), 5);
        Check.same("it", Check.points(r, 0),
                "shore 980 -1000,984 -997,988 -1000,992 -995,1000 -995");
        Check.refuses("x above", r, Check.STATE, x -> x.shift(0, 1, 0));
        Check.refuses("y below", r, Check.STATE, x -> x.shift(0, 0, -1));
        Check.same("back", r.shift(0, -1980, 1995), 5);
        Check.same("it", Check.points(r, 0),
                "shore -1000 995,-996 998,-992 995,-988 1000,-980 1000");
        Check.refuses("x below", r, Check.STATE, x -> x.shift(0, -1, 0));
        Check.refuses("y above", r, Check.STATE, x -> x.shift(0, 0, 1));
        Check.refuses("dx 2001", r, Check.ARGUMENT, x -> x.shift(0, 2001, 0));
        Check.refuses("dx -2001", r, Check.ARGUMENT, x -> x.shift(0, -2001, 0));
        Check.refuses("dy 2001", r, Check.ARGUMENT, x -> x.shift(0, 0, 2001));
        Check.refuses("dy -2001", r, Check.ARGUMENT, x -> x.shift(0, 0, -2001));
        Check.refuses("dx 2000", r, Check.STATE, x -> x.shift(0, 2000, 0));
        Check.refuses("coast 3", r, Check.INDEX, x -> x.shift(3, 2001, 0));
        Ruler far = Check.with("map king;shore -1000 1000,-1000 1000;");
        Check.same("the widest shift", far.shift(0, 2000, -2000), 2);
        Check.same("it", Check.points(far, 0), "shore 1000 -1000,1000 -1000");
        Check.same("back", far.shift(0, -2000, 2000), 2);
        Check.grow(far, 0, 129);
        Check.same("a full shore", far.shift(0, 500, -500), 129);
        Check.same("its last point", far.pointX(0, 128), 628);
    }

    private static void reverse() {
        Ruler r = new Ruler();
        Check.same("an odd shore", r.reverse(0), 5);
        Check.same("it", Check.points(r, 0), "shore 20 5,12 5,8 0,4 3,0 0");
        Check.same("an even island", r.reverse(1), 4);
        Check.same("it", Check.points(r, 1), "island 30 20,50 20,50 0,30 0");
        Check.refuses("coast 3", r, Check.INDEX, x -> x.reverse(3));
        Check.refuses("coast -1", r, Check.INDEX, x -> x.reverse(-1));
    }

    private static void setKingMetric() {
        Ruler r = new Ruler();
        Check.same("was taxicab", r.setKingMetric(false), false);
        Check.same("was taxicab", r.setKingMetric(true), false);
        Check.same("is king", r.usesKingMetric(), true);
        Check.same("was king", r.setKingMetric(true), true);
        Check.same("was king", r.setKingMetric(false), true);
        Check.same("is taxicab", r.usesKingMetric(), false);
        Check.same("each is a change", r.undoableCount(), 4);
    }

    private static void scripts() {
        Ruler r = Check.with("map king;shore 0 0,4 0;");
        Check.same("all commands", Check.run(r, "fold 0 2;move 0 0 -1 -2;insert 0 3 9 9;"
                + "island 1 1,2 2,3 3,4 4,5 5;unfold 1;drop 0 1;shift 0 -10 10;reverse 0;"
                + "metric taxicab;shore 7 7,8 8;remove 1;"), 11);
        Check.same("what they did", Check.map(r),
                "map taxicab;shore -1 19,-6 10,-11 8;shore 7 7,8 8;");
        Check.same("one change", r.undoableCount(), 1);
        Check.same("undo", r.undo(), 0);
        Check.same("all undone", Check.map(r), "map king;shore 0 0,4 0;");
        Check.same("the buffer", r.appendText(0, 0, 0, 0, 0), 20);
        Check.refuses("length 21", r, Check.ARGUMENT, x -> x.runScript(21));
        Check.refuses("length -1", r, Check.ARGUMENT, x -> x.runScript(-1));
        Check.same("the buffer", r.appendText(0, 0, 0, 0, 0), 40);
        Check.same("an empty script", r.runScript(0), 0);
        Check.same("a change too", r.undoableCount(), 1);
        Check.same("the buffer", r.appendText(0, 0, 0, 0, 0), 20);
        Check.same("an empty script", r.runScript(0), 0);
        Check.same("metric taxicab", Check.run(r, "metric taxicab;\n"), 1);
        Check.same("it", r.usesKingMetric(), false);
        Check.same("metric king", Check.run(r, "metric king;\n"), 1);
        Check.same("it", r.usesKingMetric(), true);
        Check.same("negative numbers",
                Check.run(r, "shift 0-10-10;move 0 1 -5 - 6;fold 0 -50;"), 3);
        Check.same("it", Check.points(r, 0), "shore -10 -10,-8 -58,-5 -6");
    }

    private static void stops(String script, int due) {
        Ruler r = new Ruler();
        String before = Check.map(r);
        Check.same("runScript of " + script, Check.run(r, script), due);
        Check.same("no error in " + script, Check.error(r), "0 at -1");
        Check.same(script + " is a change", r.undoableCount(), 1);
        if (due == 0) {
            Check.same("nothing is done by " + script, Check.map(r), before);
        }
        r.undo();
        Check.same("all is undone of " + script, Check.map(r), before);
    }

    private static void stoppedScripts() {
        stops("fold 3 0;reverse 0;", 0);
        stops("unfold 2;reverse 0;", 0);
        stops("move 0 5 0 0;reverse 0;", 0);
        stops("insert 0 6 0 0;reverse 0;", 0);
        stops("insert 0 5 0 0;reverse 0;", 2);
        stops("drop 2 0;reverse 0;", 0);
        stops("drop 0 128;", 0);
        stops("shift 0 2000 0;reverse 0;", 0);
        stops("reverse 5;", 0);
        stops("remove 3;", 0);
        stops("remove 0;remove 0;remove 0;remove 0;metric king;", 3);
        stops("reverse 0;move 4 0 0 0;reverse 1;", 1);
        stops("shore 0 0,1 1;shore 0 0,1 1;shore 0 0,1 1;shore 0 0,1 1;metric king;", 3);
        stops("island 0 0,1 1,2 2;island 0 0,1 1,2 2;island 0 0,1 1,2 2;island 0 0,1 1,2 2;", 3);
        stops("shift 1 0 960;fold 1 41;reverse 0;", 1);
    }

    private static void scriptError(String script, String due) {
        Ruler r = new Ruler();
        String before = Check.map(r) + Check.ledgers(r);
        Check.same("runScript of " + script, Check.run(r, script), -1);
        Check.same("the error of " + script, Check.error(r), due);
        Check.same("the map after " + script, Check.map(r) + Check.ledgers(r), before);
        Check.same("the changes after " + script, r.undoableCount(), 0);
        Check.same("the buffer after " + script, r.appendText(0, 0, 0, 0, 0), 20);
    }

    private static void scriptErrors() {
        scriptError(";", "1 at 0");
        scriptError("bend 0;", "1 at 0");
        scriptError("bold 0 1;", "1 at 0");
        scriptError("reverse 0", "1 at 9");
        scriptError("reverse 0  ", "1 at 11");
        scriptError("reverse 0;reverse 0,", "1 at 19");
        scriptError("reverse -0;", "1 at 8");
        scriptError("reverse;", "1 at 7");
        scriptError("reverse 6;", "2 at 8");
        scriptError("remove 6;", "2 at 7");
        scriptError("unfold 6;", "2 at 7");
        scriptError("fold 6 0;", "2 at 5");
        scriptError("fold 0;", "1 at 6");
        scriptError("fold 0 51;", "2 at 7");
        scriptError("fold 0 -51;", "2 at 8");
        scriptError("move 0 129 0 0;", "2 at 7");
        scriptError("move 0 -1 0 0;", "1 at 7");
        scriptError("move 0 0 1001 0;", "2 at 9");
        scriptError("move 0 0 0 -1001;", "2 at 12");
        scriptError("move 0 0 0;", "1 at 10");
        scriptError("insert 0 129 0 0;", "2 at 9");
        scriptError("insert 0 0 1001 0;", "2 at 11");
        scriptError("insert 0 0 0 0 0;", "1 at 15");
        scriptError("drop 0 129;", "2 at 7");
        scriptError("drop 0 0 0;", "1 at 9");
        scriptError("shift 0 2001 0;", "2 at 8");
        scriptError("shift 0 0 -2001;", "2 at 11");
        scriptError("shift 0 0;", "1 at 9");
        scriptError("metric queen;", "1 at 7");
        scriptError("metric king king;", "1 at 12");
        scriptError("shore 0 0;", "1 at 9");
        scriptError("island 0 0,1 1;", "1 at 14");
        String full = Check.row("shore", 33);
        scriptError(full + ",-1 0;", "3 at " + (full.length() + 1));
        scriptError("reverse 0;#", "1 at 10");
        Ruler r = new Ruler();
        Check.same("the limits are in range", Check.run(r, "reverse 5;fold 5 50;fold 5 -50;"
                + "move 5 128 1000 -1000;insert 0 128 0 0;shift 0 2000 -2000;"), 0);
    }

    private static void longScripts() {
        String twenty = "reverse 0;".repeat(20);
        Ruler r = new Ruler();
        Check.same("20 commands", Check.run(r, twenty + "\n"), 20);
        scriptError(twenty + " reverse", "3 at 201");
        scriptError(twenty + "shore", "3 at 200");
        scriptError(twenty + "metric 5", "3 at 200");
        scriptError(twenty + "reversed 0;", "1 at 200");
        scriptError(twenty + "0", "1 at 200");
        scriptError(twenty + "map", "1 at 200");
    }
}
