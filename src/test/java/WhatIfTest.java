/** Promises 35 to 43: what a change would do, and the ledgers. */
public final class WhatIfTest {
    public static void main(String[] args) {
        foldObstacle();
        lengthAfterFold();
        lengthWithoutPoint();
        leastImportantPoint();
        lengthInOtherMetric();
        ledgers();
        ledgersOfUndoneChanges();
        Check.finish();
    }

    private static void foldObstacle() {
        Ruler r = Check.with("map taxicab;shore 0 0,1 0;island 0 0,1 0,2 0;"
                + "shore 0 990,10 990,20 990;shore 995 0,995 9;island 0 -951,9 -951,5 -900;");
        Check.same("a shore of 2", r.foldObstacle(0, 50), 0);
        Check.grow(r, 0, 65);
        Check.grow(r, 1, 64);
        Check.same("a shore of 65", r.foldObstacle(0, 50), 0);
        Check.same("an island of 64", r.foldObstacle(1, -50), 0);
        Check.grow(r, 0, 66);
        Check.grow(r, 1, 65);
        Check.same("a shore of 66", r.foldObstacle(0, 0), 1);
        Check.same("an island of 65", r.foldObstacle(1, 0), 1);
        Check.same("up to 1000", r.foldObstacle(2, 10), 0);
        Check.same("above 1000", r.foldObstacle(2, 11), 2);
        Check.same("above 1000 on an odd segment", r.foldObstacle(2, -11), 2);
        Check.same("to the right up to 1000", r.foldObstacle(3, 5), 0);
        Check.same("beyond", r.foldObstacle(3, 6), 2);
        Check.same("to the left", r.foldObstacle(3, -50), 0);
        Check.same("below -1000", r.foldObstacle(4, -50), 2);
        Check.same("down to -1000", r.foldObstacle(4, -49), 0);
        r.shift(0, 0, 1000);
        Check.same("1 takes precedence", r.foldObstacle(0, 50), 1);
        Check.refuses("height 51", r, Check.ARGUMENT, x -> x.foldObstacle(0, 51));
        Check.refuses("height -51", r, Check.ARGUMENT, x -> x.foldObstacle(0, -51));
        Check.refuses("coast 5", r, Check.INDEX, x -> x.foldObstacle(5, 51));
        Check.refuses("coast -1", r, Check.INDEX, x -> x.foldObstacle(-1, 0));
    }

    private static void lengthAfterFold() {
        Ruler r = new Ruler();
        String before = Check.seen(r);
        Check.same("a shore", r.lengthAfterFold(0, 3, 1), 31);
        Check.same("an island", r.lengthAfterFold(2, 4, 1), 40);
        int length = r.lengthAfterFold(0, 3, 0);
        int level2 = r.lengthAfterFold(0, 3, 2);
        int islandLength = r.lengthAfterFold(2, -7, 0);
        Check.same("nothing changes", Check.seen(r), before);
        r.fold(0, 3);
        r.fold(2, -7);
        Check.same("as after fold", length, r.lengthAt(0, 0));
        Check.same("as after fold", level2, r.lengthAt(0, 2));
        Check.same("as after fold", islandLength, r.lengthAt(2, 0));
        r.setKingMetric(true);
        Check.same("king", r.lengthAfterFold(1, 5, 0), 80);
        Check.grow(r, 0, 66);
        Check.same("too many points", r.lengthAfterFold(0, 0, 0), -1);
        r.shift(1, 0, 980);
        Check.same("too far out", r.lengthAfterFold(1, 1, 0), -1);
        Check.refuses("level 8", r, Check.ARGUMENT, x -> x.lengthAfterFold(0, 0, 8));
        Check.refuses("level -1", r, Check.ARGUMENT, x -> x.lengthAfterFold(1, 0, -1));
        Check.refuses("height 51", r, Check.ARGUMENT, x -> x.lengthAfterFold(1, 51, 0));
        Check.refuses("height -51", r, Check.ARGUMENT, x -> x.lengthAfterFold(1, -51, 0));
        Check.refuses("coast 3", r, Check.INDEX, x -> x.lengthAfterFold(3, 51, 8));
    }

    private static void lengthWithoutPoint() {
        Ruler r = new Ruler();
        Check.same("the first of a shore", r.lengthWithoutPoint(0, 0), 24);
        Check.same("an inner one", r.lengthWithoutPoint(0, 1), 25);
        Check.same("the last of a shore", r.lengthWithoutPoint(0, 4), 23);
        Check.same("the first of an island", r.lengthWithoutPoint(1, 0), 80);
        Check.same("the last of an island", r.lengthWithoutPoint(1, 3), 80);
        Check.same("an island of 3", r.lengthWithoutPoint(2, 0), -1);
        r.setKingMetric(true);
        Check.same("king", r.lengthWithoutPoint(0, 3), 20);
        Check.same("king", r.lengthWithoutPoint(1, 2), 60);
        Ruler small = Check.with("map king;shore 0 0,9 9;shore 0 0,5 5,5 5;");
        Check.same("a shore of 2", small.lengthWithoutPoint(0, 1), -1);
        Check.same("a shore of 3", small.lengthWithoutPoint(1, 0), 0);
        Check.refuses("point 2", small, Check.INDEX, x -> x.lengthWithoutPoint(0, 2));
        Check.refuses("point -1", small, Check.INDEX, x -> x.lengthWithoutPoint(0, -1));
        Check.refuses("coast 2", small, Check.INDEX, x -> x.lengthWithoutPoint(2, 0));
    }

    private static void leastImportantPoint() {
        Ruler r = Check.with("map taxicab;shore 0 0,9 0,10 0,10 9,0 9;shore 0 0,9 9;"
                + "island 0 0,4 0,4 4;island 0 0,4 0,8 0,8 8,0 8;shore 0 0,5 0,6 0;");
        Check.same("of equal ones the first", r.leastImportantPoint(0), 1);
        Check.same("a shore of 2", r.leastImportantPoint(1), -1);
        Check.same("an island of 3", r.leastImportantPoint(2), -1);
        Check.same("an island", r.leastImportantPoint(3), 0);
        r.setKingMetric(true);
        Check.same("an island, king", r.leastImportantPoint(3), 1);
        Check.same("a shore of 3", r.leastImportantPoint(4), 1);
        r.movePoint(4, 2, 4, 0);
        Check.same("an end of a shore", r.leastImportantPoint(4), 2);
        Check.same("no length at all",
                Check.with("map king;shore 1 1,1 1,1 1;").leastImportantPoint(0), 0);
        Check.refuses("coast 5", r, Check.INDEX, x -> x.leastImportantPoint(5));
    }

    private static void lengthInOtherMetric() {
        Ruler r = new Ruler();
        Check.same("king", r.lengthInOtherMetric(0, 0), 21);
        Check.same("king", r.lengthInOtherMetric(1, 1), 40);
        Check.same("king", r.lengthInOtherMetric(2, 7), 0);
        Check.same("the metric stays", r.usesKingMetric(), false);
        r.setKingMetric(true);
        Check.same("taxicab", r.lengthInOtherMetric(0, 0), 31);
        Check.refuses("level 8", r, Check.ARGUMENT, x -> x.lengthInOtherMetric(0, 8));
        Check.refuses("level -1", r, Check.ARGUMENT, x -> x.lengthInOtherMetric(0, -1));
        Check.refuses("coast 3", r, Check.INDEX, x -> x.lengthInOtherMetric(3, 8));
    }

    private static void ledgers() {
        Ruler r = new Ruler();
        r.fold(0, 1);
        Check.same("fold of a shore", Check.ledgers(r), "12+4-0 gap 0");
        r.fold(1, 1);
        Check.same("fold of an island", Check.ledgers(r), "12+8-0 gap 0");
        r.unfold(0);
        Check.same("unfold", Check.ledgers(r), "12+8-4 gap 0");
        r.insertPoint(0, 0, 0, 0);
        Check.same("insertPoint", Check.ledgers(r), "12+9-4 gap 0");
        r.removePoint(0, 0);
        Check.same("removePoint", Check.ledgers(r), "12+9-5 gap 0");
        r.removeCoast(1);
        Check.same("removeCoast", Check.ledgers(r), "12+9-13 gap 0");
        Check.add(r, "shore 0 0,1 1,2 2,3 3");
        Check.same("addCoast", Check.ledgers(r), "12+13-13 gap 0");
        r.movePoint(0, 0, 1, 1);
        r.shift(0, 1, 1);
        r.reverse(0);
        r.setKingMetric(true);
        Check.same("the others", Check.ledgers(r), "12+13-13 gap 0");
        Check.run(r, "shore 0 0,1 1;insert 0 0 0 0;drop 0 0;remove 1;fold 0 1;fold 5 5;");
        Check.same("a script", Check.ledgers(r), "12+20-17 gap 0");
        Check.load(r, "map king;shore 0 0,1 1;");
        Check.same("loadMap", Check.ledgers(r), "2+0-0 gap 0");
    }

    private static void ledgersOfUndoneChanges() {
        Ruler r = new Ruler();
        r.fold(0, 1);
        r.saveSnapshot();
        r.unfold(0);
        r.undo();
        Check.same("undone unfold", Check.ledgers(r), "12+4-0 gap 0");
        r.removeCoast(1);
        r.restoreSnapshot();
        Check.same("snapshot", Check.ledgers(r), "12+4-0 gap 0");
    }
}
