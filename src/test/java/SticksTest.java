/** Promises 14 to 26: sticks and lengths. */
public final class SticksTest {
    private static final int[] NO_LEVELS = {-1, 8, 32, Integer.MIN_VALUE, Integer.MAX_VALUE};

    public static void main(String[] args) {
        lengths();
        stickCounts();
        sticksOfAShore();
        sticksOfAnIsland();
        longestStick();
        gains();
        coarsestLevels();
        allCoasts();
        ratios();
        wrongArguments();
        Check.finish();
    }

    private static String lengthsOf(Ruler r, int coast) {
        StringBuilder text = new StringBuilder();
        for (int level = 0; level <= 7; level++) {
            text.append(level == 0 ? "" : " ").append(r.lengthAt(coast, level));
        }
        return text.toString();
    }

    private static String countsOf(Ruler r, int coast) {
        StringBuilder text = new StringBuilder();
        for (int level = 0; level <= 7; level++) {
            text.append(level == 0 ? "" : " ").append(r.stickCount(coast, level));
        }
        return text.toString();
    }

    private static void lengths() {
        Ruler r = new Ruler();
        Check.same("a shore", lengthsOf(r, 0), "31 25 25 25 25 25 25 25");
        Check.same("an island of 4", lengthsOf(r, 1), "80 80 0 0 0 0 0 0");
        Check.same("an island of 3", lengthsOf(r, 2), "40 30 0 0 0 0 0 0");
        r.setKingMetric(true);
        Check.same("a shore", lengthsOf(r, 0), "21 20 20 20 20 20 20 20");
        Check.same("an island of 4", lengthsOf(r, 1), "80 40 0 0 0 0 0 0");
        Check.same("an island of 3", lengthsOf(r, 2), "30 20 0 0 0 0 0 0");
        Ruler far = Check.with("map taxicab;shore -1000 -1000,1000 1000;");
        Check.same("the longest stick of all", lengthsOf(far, 0).split(" ")[7], "4000");
        for (int i = 2; i < 129; i++) {
            far.insertPoint(0, i, i % 2 == 0 ? -1000 : 1000, i % 2 == 0 ? -1000 : 1000);
        }
        Check.same("the longest shore", lengthsOf(far, 0), "512000 0 0 0 0 0 0 0");
    }

    private static void stickCounts() {
        Ruler r = Check.with("map taxicab;shore 0 0,1 0;island 0 0,1 0,2 0;");
        Check.same("a shore of 2", countsOf(r, 0), "1 1 1 1 1 1 1 1");
        Check.same("an island of 3", countsOf(r, 1), "3 2 1 1 1 1 1 1");
        Check.grow(r, 0, 6);
        Check.grow(r, 1, 6);
        Check.same("a shore of 6", countsOf(r, 0), "5 3 2 1 1 1 1 1");
        Check.same("an island of 6", countsOf(r, 1), "6 3 2 1 1 1 1 1");
        Check.grow(r, 0, 128);
        Check.grow(r, 1, 128);
        Check.same("a shore of 128", countsOf(r, 0), "127 64 32 16 8 4 2 1");
        Check.same("an island of 128", countsOf(r, 1), "128 64 32 16 8 4 2 1");
        Check.grow(r, 0, 129);
        Check.grow(r, 1, 129);
        Check.same("a shore of 129", countsOf(r, 0), "128 64 32 16 8 4 2 1");
        Check.same("an island of 129", countsOf(r, 1), "129 65 33 17 9 5 3 2");
    }

    private static void sticksOfAShore() {
        Ruler r = Check.with("map taxicab;shore 0 0,9 0,1 1,9 9,5 5,20 0;");
        Check.same("start", r.stickStart(0, 0, 4), 4);
        Check.same("start", r.stickStart(0, 1, 2), 4);
        Check.same("start", r.stickStart(0, 2, 1), 4);
        Check.same("start", r.stickStart(0, 7, 0), 0);
        Check.same("length", r.stickLength(0, 0, 0), 9);
        Check.same("length", r.stickLength(0, 1, 0), 2);
        Check.same("length", r.stickLength(0, 1, 1), 8);
        Check.same("the last stick is shorter", r.stickLength(0, 1, 2), 20);
        Check.same("length", r.stickLength(0, 2, 0), 10);
        Check.same("length", r.stickLength(0, 2, 1), 20);
        Check.same("length", r.stickLength(0, 7, 0), 20);
        r.setKingMetric(true);
        Check.same("king length", r.stickLength(0, 1, 2), 15);
        Check.refuses("stick -1", r, Check.ARGUMENT, x -> x.stickStart(0, 1, -1));
        Check.refuses("stick 3", r, Check.ARGUMENT, x -> x.stickStart(0, 1, 3));
        Check.refuses("stick -1", r, Check.ARGUMENT, x -> x.stickLength(0, 1, -1));
        Check.refuses("stick 3", r, Check.ARGUMENT, x -> x.stickLength(0, 1, 3));
        Check.refuses("stick 1", r, Check.ARGUMENT, x -> x.stickLength(0, 7, 1));
        Check.refuses("a great stick", r, Check.ARGUMENT,
                x -> x.stickLength(0, 7, Integer.MAX_VALUE));
    }

    private static void sticksOfAnIsland() {
        Ruler r = Check.with("map taxicab;island 0 0,9 0,1 1,9 9,5 5;");
        Check.same("start", r.stickStart(0, 0, 4), 4);
        Check.same("start", r.stickStart(0, 1, 2), 4);
        Check.same("start", r.stickStart(0, 3, 0), 0);
        Check.same("the closing stick", r.stickLength(0, 0, 4), 10);
        Check.same("the closing stick", r.stickLength(0, 1, 2), 10);
        Check.same("the closing stick", r.stickLength(0, 2, 1), 10);
        Check.same("a stick to its own start", r.stickLength(0, 3, 0), 0);
        Check.refuses("stick 5", r, Check.ARGUMENT, x -> x.stickStart(0, 0, 5));
        Check.refuses("stick 1", r, Check.ARGUMENT, x -> x.stickStart(0, 3, 1));
        Check.grow(r, 0, 129);
        Check.same("start", r.stickStart(0, 7, 1), 128);
        Check.same("the closing stick", r.stickLength(0, 7, 1), 128);
    }

    private static void longestStick() {
        Ruler r = Check.with("map taxicab;shore 0 0,3 3,9 3,9 9,15 9;island 0 0,1 0,9 0;"
                + "shore 5 5,5 5,5 5;");
        Check.same("of equal ones the first", r.longestStick(0, 0), 0);
        Check.same("one stick", r.longestStick(0, 2), 0);
        Check.same("the closing stick", r.longestStick(1, 0), 2);
        Check.same("all of length 0", r.longestStick(2, 0), 0);
        r.setKingMetric(true);
        Check.same("king", r.longestStick(0, 0), 1);
        Check.same("king", r.longestStick(0, 1), 0);
    }

    private static void gains() {
        Ruler r = Check.with("map taxicab;shore 0 0,1 0,2 0,2 8,2 0;shore 0 0,9 0,0 0;"
                + "shore 1 1,1 1;");
        Check.same("gain 0", r.lengthGain(0, 0), 16);
        Check.same("gain 1", r.lengthGain(0, 1), 0);
        Check.same("gain 6", r.lengthGain(0, 6), 0);
        Check.same("greatest gain", r.levelOfGreatestGain(0), 0);
        Check.same("greatest gain", r.levelOfGreatestGain(1), 0);
        Check.same("equal gains", r.levelOfGreatestGain(2), 0);
        Ruler late = Check.with("map taxicab;" + Check.row("island", 3) + ";");
        Check.grow(late, 0, 129);
        Check.same("the last gain", late.lengthGain(0, 6), 0);
        late.movePoint(0, 128, 0, 0);
        late.movePoint(0, 64, 500, 0);
        Check.same("the last gain", late.lengthGain(0, 6), 1000);
        Check.same("its level", late.levelOfGreatestGain(0), 6);
        late.movePoint(0, 32, 1000, 0);
        Check.same("equal gains", late.lengthGain(0, 5), 1000);
        Check.same("the smallest level", late.levelOfGreatestGain(0), 5);
        for (int i = 0; i < 128; i++) {
            late.movePoint(0, i, 0, 0);
        }
        late.movePoint(0, 128, 9, 9);
        Check.same("level 7 has no gain", late.levelOfGreatestGain(0), 0);
        for (int level : new int[] {-1, 7, 8, Integer.MAX_VALUE}) {
            Check.refuses("lengthGain", r, Check.ARGUMENT, x -> x.lengthGain(0, level));
            Check.refuses("lengthGain", r, Check.INDEX, x -> x.lengthGain(9, level));
        }
        Check.refuses("levelOfGreatestGain", r, Check.INDEX, x -> x.levelOfGreatestGain(3));
    }

    private static void coarsestLevels() {
        Ruler r = new Ruler();
        Check.same("length 0", r.coarsestLevelFor(2, 0), 7);
        Check.same("length 1", r.coarsestLevelFor(2, 1), 1);
        Check.same("length 30", r.coarsestLevelFor(2, 30), 1);
        Check.same("length 31", r.coarsestLevelFor(2, 31), 0);
        Check.same("length 40", r.coarsestLevelFor(2, 40), 0);
        Check.same("length 41", r.coarsestLevelFor(2, 41), -1);
        Check.same("a great length", r.coarsestLevelFor(2, Integer.MAX_VALUE), -1);
        Check.same("exact", r.coarsestExactLevel(0), 0);
        Check.same("exact", r.coarsestExactLevel(1), 1);
        Check.same("exact", r.coarsestExactLevel(2), 0);
        Check.same("exact", Check.with("map king;shore 0 0,1 1,2 2;").coarsestExactLevel(0), 7);
        Check.same("length 0 is exact",
                Check.with("map king;island 3 3,3 3,3 3;").coarsestExactLevel(0), 7);
        Check.refuses("length -1", r, Check.ARGUMENT, x -> x.coarsestLevelFor(0, -1));
        Check.refuses("length -1", r, Check.INDEX, x -> x.coarsestLevelFor(3, -1));
        Check.refuses("exact", r, Check.INDEX, x -> x.coarsestExactLevel(-1));
    }

    private static void allCoasts() {
        Ruler r = new Ruler();
        Check.same("total 0", r.totalLength(0), 151);
        Check.same("total 1", r.totalLength(1), 135);
        Check.same("total 7", r.totalLength(7), 25);
        Check.same("longest 0", r.longestCoast(0), 1);
        Check.same("longest 7", r.longestCoast(7), 0);
        Ruler same = Check.with("map king;shore 0 0,1 1;shore 0 0,5 5;shore 5 5,0 0;");
        Check.same("of equal ones the first", same.longestCoast(0), 1);
        Ruler none = Check.with("map king;");
        Check.same("total of none", none.totalLength(3), 0);
        Check.same("longest of none", none.longestCoast(3), -1);
        Ruler flat = Check.with("map king;shore 0 0,0 0;shore 1 1,1 1;");
        Check.same("all of length 0", flat.longestCoast(0), 0);
        for (int level : NO_LEVELS) {
            Check.refuses("totalLength", none, Check.ARGUMENT, x -> x.totalLength(level));
            Check.refuses("longestCoast", none, Check.ARGUMENT, x -> x.longestCoast(level));
        }
    }

    private static void ratios() {
        Ruler r = new Ruler();
        Check.same("ratio", r.refinementRatio(0, 0), 31.0 / 25.0);
        Check.same("ratio", r.refinementRatio(0, 6), 1.0);
        Check.same("ratio", r.refinementRatio(2, 0), 40.0 / 30.0);
        Check.same("a coarser length of 0", r.refinementRatio(2, 1), 0.0);
        Check.same("both lengths 0", r.refinementRatio(2, 6), 0.0);
        Check.same("mean", r.meanStickLength(0, 0), 31.0f / 4.0f);
        Check.same("mean", r.meanStickLength(2, 0), 40.0f / 3.0f);
        Check.same("mean", r.meanStickLength(2, 7), 0.0f);
        Check.same("mean", r.meanStickLength(0, 7), 25.0f);
        Check.refuses("ratio 7", r, Check.ARGUMENT, x -> x.refinementRatio(0, 7));
        Check.refuses("ratio 7", r, Check.INDEX, x -> x.refinementRatio(3, 7));
        Check.refuses("ratio -1", r, Check.ARGUMENT, x -> x.refinementRatio(0, -1));
    }

    private static void wrongArguments() {
        Ruler r = new Ruler();
        for (int level : NO_LEVELS) {
            Check.refuses("lengthAt", r, Check.ARGUMENT, x -> x.lengthAt(0, level));
            Check.refuses("lengthAt", r, Check.INDEX, x -> x.lengthAt(3, level));
            Check.refuses("stickCount", r, Check.ARGUMENT, x -> x.stickCount(0, level));
            Check.refuses("stickCount", r, Check.INDEX, x -> x.stickCount(-1, level));
            Check.refuses("stickStart", r, Check.ARGUMENT, x -> x.stickStart(0, level, 0));
            Check.refuses("stickStart", r, Check.INDEX, x -> x.stickStart(6, level, -1));
            Check.refuses("stickLength", r, Check.ARGUMENT, x -> x.stickLength(0, level, 0));
            Check.refuses("stickLength", r, Check.INDEX, x -> x.stickLength(6, level, -1));
            Check.refuses("longestStick", r, Check.ARGUMENT, x -> x.longestStick(0, level));
            Check.refuses("longestStick", r, Check.INDEX, x -> x.longestStick(3, level));
            Check.refuses("meanStickLength", r, Check.ARGUMENT, x -> x.meanStickLength(0, level));
            Check.refuses("meanStickLength", r, Check.INDEX, x -> x.meanStickLength(3, level));
        }
    }
}
