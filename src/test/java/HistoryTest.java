/** Promises 55 to 60: the output, undo and the snapshot. */
public final class HistoryTest {
    public static void main(String[] args) {
        writeLengths();
        longOutputs();
        outputByte();
        undoSteps();
        undoEachChange();
        whatIsNoChange();
        undoLeavesTheRest();
        snapshots();
        Check.finish();
    }

    private static void written(Ruler r, int coast, String due) {
        Check.same("writeLengths", r.writeLengths(coast), due.length());
        Check.same("the output", Check.output(r), due);
    }

    private static void writeLengths() {
        Ruler r = new Ruler();
        written(r, 0, "31 25 25");
        written(r, 1, "80 80");
        written(r, 2, "40 30");
        r.setKingMetric(true);
        written(r, 2, "30 20");
        Ruler small = Check.with("map king;shore 0 0,0 0;shore 0 0,3 3,0 0;"
                + "island 0 0,4 0,4 4,0 4,-4 0;");
        written(small, 0, "0");
        written(small, 1, "6 0");
        written(small, 2, "20 16 8");
        Check.refuses("coast 3", small, Check.INDEX, x -> x.writeLengths(3));
        Check.refuses("coast -1", small, Check.INDEX, x -> x.writeLengths(-1));
    }

    private static void longOutputs() {
        Ruler r = Check.with("map king;" + Check.row("shore", 2) + ";"
                + Check.row("island", 3) + ";");
        Check.grow(r, 0, 129);
        Check.grow(r, 1, 128);
        written(r, 0, "128 128 128 128 128 128 128 128");
        written(r, 1, "254 252 248 240 224 192 128");
        Check.grow(r, 1, 129);
        written(r, 1, "256 256 256 256 256 256 256 256");
        r.removePoint(0, 0);
        written(r, 0, "127 127 127 127 127 127 127 127");
        r.unfold(0);
        written(r, 0, "126 126 126 126 126 126 126");
        Ruler far = Check.with("map taxicab;island -1000 1000,1000 -1000,-1000 1000;");
        for (int i = 3; i < 129; i++) {
            far.insertPoint(0, i, i % 2 == 0 ? -1000 : 1000, i % 2 == 0 ? 1000 : -1000);
        }
        written(far, 0, "512000 0 0 0 0 0 0 0");
    }

    private static void outputByte() {
        Ruler r = new Ruler();
        Check.refuses("of an empty output", r, Check.INDEX, x -> x.outputByte(0));
        r.writeLengths(2);
        Check.same("a digit", r.outputByte(0), 52);
        Check.same("a space", r.outputByte(2), 32);
        Check.same("the last", r.outputByte(4), 48);
        Check.refuses("byte 5", r, Check.INDEX, x -> x.outputByte(5));
        Check.refuses("byte -1", r, Check.INDEX, x -> x.outputByte(-1));
        Check.refuses("a great index", r, Check.INDEX, x -> x.outputByte(Integer.MAX_VALUE));
        r.saveSnapshot();
        r.removeCoast(2);
        r.undo();
        r.restoreSnapshot();
        Check.run(r, "reverse 0;");
        Check.load(r, "map king;");
        Check.same("the output stays", Check.output(r), "40 30");
        Check.refuses("writeLengths of none", r, Check.INDEX, x -> x.writeLengths(0));
    }

    private static void undoSteps() {
        Ruler r = new Ruler();
        for (int i = 1; i <= 20; i++) {
            r.movePoint(0, 0, i, i);
            Check.same("undoableCount", r.undoableCount(), Math.min(i, 8));
        }
        for (int i = 7; i >= 0; i--) {
            Check.same("undo", r.undo(), i);
            Check.same("the point", r.pointX(0, 0), 12 + i);
            Check.same("undoableCount", r.undoableCount(), i);
        }
        Check.refuses("undo", r, Check.STATE, x -> x.undo());
        r.movePoint(0, 0, 99, 99);
        r.movePoint(0, 0, 98, 98);
        Check.same("undo", r.undo(), 1);
        r.movePoint(0, 0, 97, 97);
        Check.same("undo", r.undo(), 1);
        Check.same("the point", r.pointX(0, 0), 99);
        Check.same("undo", r.undo(), 0);
        Check.same("the point", r.pointX(0, 0), 12);
        Check.refuses("undo", r, Check.STATE, x -> x.undo());
    }

    private static void undoEachChange() {
        Check.Call[] changes = {
            x -> Check.add(x, "shore 9 9,8 8"), x -> x.fold(0, 4), x -> x.unfold(0),
            x -> x.movePoint(0, 0, 5, 5), x -> x.insertPoint(1, 0, 5, 5),
            x -> x.removePoint(0, 1), x -> x.shift(0, 1, 2), x -> x.reverse(1),
            x -> x.removeCoast(0), x -> x.setKingMetric(true),
            x -> Check.run(x, "remove 0;fold 0 1;metric king;")};
        for (int i = 0; i < changes.length; i++) {
            Ruler r = new Ruler();
            r.insertPoint(0, 2, 5, 6);
            r.removePoint(1, 0);
            r.insertPoint(1, 0, 7, 8);
            String before = Check.map(r) + Check.ledgers(r);
            changes[i].on(r);
            Check.same("change " + i + " changes", before.equals(Check.map(r) + Check.ledgers(r)),
                    false);
            Check.same("change " + i + " counts", r.undoableCount(), 4);
            Check.same("undo of change " + i, r.undo(), 3);
            Check.same("change " + i + " undone", Check.map(r) + Check.ledgers(r), before);
        }
    }

    private static void whatIsNoChange() {
        Ruler r = new Ruler();
        r.setKingMetric(false);
        Check.same("the same metric is a change", r.undoableCount(), 1);
        r.movePoint(0, 0, 0, 0);
        Check.same("the same place is a change", r.undoableCount(), 2);
        r.shift(0, 0, 0);
        Check.same("no shift is a change", r.undoableCount(), 3);
        Check.add(r, "shore");
        Check.run(r, "reverse");
        Check.load(r, "map");
        r.saveSnapshot();
        r.writeLengths(0);
        Check.same("these are none", r.undoableCount(), 3);
        Check.run(r, "reverse 5;");
        Check.same("a script that does nothing is one", r.undoableCount(), 4);
    }

    private static void undoLeavesTheRest() {
        Ruler r = new Ruler();
        r.reverse(0);
        r.saveSnapshot();
        r.writeLengths(0);
        Check.load(r, "map king");
        r.appendText(0, 0, 0, 0, 0);
        r.undo();
        Check.same("the error", Check.error(r), "1 at 8");
        Check.same("the output", Check.output(r), "31 25 25");
        Check.same("the buffer", r.appendText(0, 0, 0, 0, 0), 40);
        Check.same("the point", r.pointX(0, 0), 0);
        r.restoreSnapshot();
        Check.same("the snapshot", r.pointX(0, 0), 20);
        Check.same("the error", Check.error(r), "1 at 8");
        Check.same("the output", Check.output(r), "31 25 25");
        Check.same("the buffer", r.appendText(0, 0, 0, 0, 0), 60);
    }

    private static void snapshots() {
        Ruler r = new Ruler();
        r.fold(0, 1);
        r.setKingMetric(true);
        String saved = Check.map(r) + Check.ledgers(r);
        r.saveSnapshot();
        Check.same("saving keeps the changes", r.undoableCount(), 2);
        r.undo();
        r.undo();
        r.removeCoast(1);
        r.removeCoast(1);
        Check.same("restored", r.restoreSnapshot(), 3);
        Check.same("it", Check.map(r) + Check.ledgers(r), saved);
        Check.refuses("undo after it", r, Check.STATE, x -> x.undo());
        r.reverse(0);
        Check.same("changes after it", r.undoableCount(), 1);
        r.undo();
        Check.same("undone", Check.map(r) + Check.ledgers(r), saved);
        r.removeCoast(0);
        Check.same("kept", r.restoreSnapshot(), 3);
        Check.same("it", Check.map(r) + Check.ledgers(r), saved);
        r.removeCoast(0);
        r.saveSnapshot();
        Check.add(r, "shore 0 0,0 0");
        Check.same("replaced", r.restoreSnapshot(), 2);
        Check.same("a map that is not read", Check.load(r, "map"), -1);
        Check.same("keeps the snapshot", r.restoreSnapshot(), 2);
        Check.load(r, "map king;");
        Check.refuses("discarded", r, Check.STATE, x -> x.restoreSnapshot());
        r.saveSnapshot();
        Check.add(r, "shore 0 0,0 0");
        Check.same("a snapshot without coastlines", r.restoreSnapshot(), 0);
    }
}
