/** The sentences on changes and undoing, the output and the snapshot that name a boundary. */
public final class HistoryEdgesTest {
    /** Each kind of a change, on a new object; each leaves a map that is not as before. */
    private static final Check.Call[] CHANGES = {x -> Check.add(x, "shore 1 2,3 4"),
        x -> x.fold(0, 5), x -> x.unfold(0), x -> x.movePoint(1, 3, -7, 8),
        x -> x.insertPoint(2, 3, 9, 9), x -> x.removePoint(0, 4), x -> x.shift(1, 1, -1),
        x -> x.reverse(0), x -> x.removeCoast(1), x -> x.setKingMetric(true),
        x -> Check.run(x, "reverse 0;metric king;remove 2;")};

    /** Changes after which the map is the same as before. */
    private static final Check.Call[] IDLE = {x -> x.movePoint(0, 0, 0, 0), x -> x.shift(0, 0, 0),
        x -> x.setKingMetric(false), x -> Check.run(x, ""), x -> Check.run(x, "reverse 5;"),
        x -> Check.run(x, "metric taxicab;"), x -> Check.run(x, "shift 0 0 0;fold 4 4;"),
        x -> Check.run(x, "fold 0 0;unfold 0;"), x -> x.runScript(0)};

    public static void main(String[] args) {
        eachIsAChange();
        changesOfNothing();
        parseErrorsAreNoChanges();
        otherCallsAreNoChanges();
        answersOfNothing();
        latestEight();
        eachAsTheTenth();
        latestEightAfterUndo();
        roundTheRing();
        nothingToUndo();
        undoLeavesTheRest();
        loadMapClears();
        wrongMapClearsNothing();
        noSnapshot();
        snapshotIsKept();
        snapshotIsReplaced();
        snapshotHoldsAll();
        restoringClearsTheHistory();
        restoringLeavesTheRest();
        lastLevelWritten();
        outputIsReplaced();
        outputAndSnapshotStay();
        noSuchByte();
        theLastOf512Calls();
        objectsApart();
        Check.finish();
    }

    private static String state(Ruler ruler) {
        return Check.map(ruler) + Check.ledgers(ruler);
    }

    // ---- what a change is

    /** "Each call of one of them that returns normally is a change". */
    private static void eachIsAChange() {
        for (int i = 0; i < CHANGES.length; i++) {
            Ruler r = new Ruler();
            CHANGES[i].on(r);
            String after = state(r);
            Check.same("change " + i + " changes", after.equals(state(new Ruler())), false);
            Check.same("change " + i + " counts", r.undoableCount(), 1);
            r.reverse(0);
            Check.same("another one", r.undo(), 1);
            Check.same("change " + i + " stays", state(r), after);
            Check.same("undo of change " + i, r.undo(), 0);
            Check.same("change " + i + " undone", state(r), state(new Ruler()));
            Check.refuses("undo again", r, Check.STATE, x -> x.undo());
        }
    }

    /** "even if the map stays the same"; "even if none of its commands is executed". */
    private static void changesOfNothing() {
        for (int i = 0; i < IDLE.length; i++) {
            Ruler r = new Ruler();
            r.movePoint(0, 0, 0, 0);
            IDLE[i].on(r);
            Check.same("change " + i + " keeps the map", Check.map(r), Check.map(new Ruler()));
            Check.same("change " + i + " counts", r.undoableCount(), 2);
            Check.same("undo of change " + i, r.undo(), 1);
            Check.same("change " + i + " undone", state(r), state(new Ruler()));
        }
        Ruler same = Check.with("map king;shore 5 5,5 5;");
        same.reverse(0);
        same.setKingMetric(true);
        Check.same("a reversed palindrome, the same metric", same.undoableCount(), 2);
        Ruler none = Check.with("map king;");
        none.setKingMetric(true);
        none.runScript(0);
        Check.same("of an empty map", none.undoableCount(), 2);
        Check.same("undone", none.undo(), 1);
    }

    /** "A call of runScript or addCoast that reports a parse error is not a change." */
    private static void parseErrorsAreNoChanges() {
        for (int before = 0; before <= 9; before++) {
            Ruler r = new Ruler();
            for (int i = 0; i < before; i++) {
                r.shift(0, 1, 0);
            }
            String map = state(r);
            Check.same("a wrong script", Check.run(r, "reverse 0;reverse"), -1);
            Check.same("a wrong coast", Check.add(r, "shore 1 2,3 4;"), -1);
            Check.same("a wrong map", Check.load(r, "map king;shore 1 1;"), -1);
            Check.same("no changes", r.undoableCount(), Math.min(before, 8));
            Check.same("the map", state(r), map);
            while (r.undoableCount() > 0) {
                r.undo();
            }
            Check.same("the past", r.pointX(0, 0), Math.max(0, before - 8));
        }
    }

    /** Only the methods that are named change the map. */
    private static void otherCallsAreNoChanges() {
        Check.Call[] calls = {x -> x.appendText(0, 0, 0, 0, 0), x -> x.errorCode(),
            x -> x.errorOffset(), x -> x.coastCount(), x -> x.usesKingMetric(),
            x -> x.isIsland(0), x -> x.pointCount(0), x -> x.pointX(0, 0), x -> x.pointY(0, 0),
            x -> x.pointDistance(0, 0, 1), x -> x.nearestPoint(0, 1, 1), x -> x.lengthAt(0, 1),
            x -> x.stickCount(0, 1), x -> x.stickStart(0, 1, 1), x -> x.stickLength(0, 1, 1),
            x -> x.longestStick(0, 0), x -> x.lengthGain(0, 0), x -> x.levelOfGreatestGain(0),
            x -> x.coarsestLevelFor(0, 9), x -> x.coarsestExactLevel(0), x -> x.totalLength(0),
            x -> x.longestCoast(0), x -> x.refinementRatio(0, 0), x -> x.meanStickLength(0, 0),
            x -> x.doubledArea(1), x -> x.isCounterclockwise(1), x -> x.contains(1, 40, 10),
            x -> x.encloses(1, 2), x -> x.innermostIslandAround(2), x -> x.ringDepth(2),
            x -> x.boxWidth(0), x -> x.boxHeight(0), x -> x.foldObstacle(0, 5),
            x -> x.lengthAfterFold(0, 5, 0), x -> x.lengthWithoutPoint(0, 1),
            x -> x.leastImportantPoint(0), x -> x.lengthInOtherMetric(0, 0),
            x -> x.loadedPoints(), x -> x.addedPoints(), x -> x.removedPoints(),
            x -> x.ledgerGap(), x -> x.outputByte(0), x -> x.undoableCount()};
        Ruler r = new Ruler();
        r.insertPoint(0, 0, 3, 3);
        r.saveSnapshot();
        r.setKingMetric(true);
        r.removePoint(0, 2);
        r.writeLengths(1);
        Check.run(r, "fold");
        Check.feed(r, "map taxicab;shore 7 8,9 10;");
        for (int i = 1; i < calls.length; i++) {
            Check.leavesAll("call " + i, r, calls[i]);
        }
        Ruler more = r.again();
        calls[0].on(more);
        Check.same("appendText is no change", more.undoableCount(), 3);
        Ruler written = r.again();
        written.writeLengths(0);
        Check.same("writeLengths is no change", written.undoableCount(), 3);
        Check.same("nor does it touch the map", state(written), state(r.again()));
        Ruler saved = r.again();
        saved.saveSnapshot();
        Check.same("saveSnapshot is no change", saved.undoableCount(), 3);
        Check.same("nor does it touch the map", state(saved), state(r.again()));
    }

    /** Nor does a call change anything that answers with what there is not. */
    private static void answersOfNothing() {
        Check.Call[] calls = {x -> x.lengthAfterFold(0, 1, 0), x -> x.foldObstacle(0, 1),
            x -> x.lengthAfterFold(1, -2, 7), x -> x.lengthWithoutPoint(0, 1),
            x -> x.lengthWithoutPoint(1, 2), x -> x.leastImportantPoint(0),
            x -> x.leastImportantPoint(1), x -> x.coarsestLevelFor(0, 99999),
            x -> x.innermostIslandAround(1), x -> x.ringDepth(1), x -> x.encloses(1, 1),
            x -> x.contains(1, 9, 9), x -> x.refinementRatio(1, 1), x -> x.doubledArea(1)};
        Ruler r = Check.with("map king;shore 0 1000,9 1000;island 0 -999,1 -999,2 -999;");
        r.shift(0, 1, 0);
        r.saveSnapshot();
        r.setKingMetric(false);
        r.writeLengths(1);
        Check.run(r, "fold 0 51;");
        Check.feed(r, "shore 7 8,9 10");
        for (int i = 0; i < calls.length; i++) {
            Check.leavesAll("call " + i, r, calls[i]);
        }
        Ruler none = Check.with("map king;");
        none.setKingMetric(false);
        Check.leavesAll("longestCoast", none, x -> x.longestCoast(0));
        Check.leavesAll("totalLength", none, x -> x.totalLength(0));
    }

    // ---- undo

    /** "The latest 8 changes can be undone, the latest one first." */
    private static void latestEight() {
        for (int changes = 0; changes <= 26; changes++) {
            Ruler r = new Ruler();
            for (int i = 1; i <= changes; i++) {
                r.movePoint(0, 0, i, -i);
                Check.same("undoable after " + i, r.undoableCount(), Math.min(i, 8));
            }
            int undone = Math.min(changes, 8);
            for (int i = 1; i <= undone; i++) {
                Check.same("still undoable", r.undo(), undone - i);
                Check.same("x", r.pointX(0, 0), changes - i);
                Check.same("y", r.pointY(0, 0), i - changes);
            }
            Check.refuses("an older one", r, Check.STATE, x -> x.undo());
        }
    }

    /** Every change is one of the latest 8, be it one of none or one of a script. */
    private static void eachAsTheTenth() {
        for (Check.Call[] changes : new Check.Call[][] {CHANGES, IDLE}) {
            for (int i = 0; i < changes.length; i++) {
                Ruler r = new Ruler();
                for (int times = 1; times <= 9; times++) {
                    r.shift(2, 1, 0);
                }
                String before = state(r);
                changes[i].on(r);
                Check.same("undo of change " + i, r.undo(), 7);
                Check.same("change " + i + " undone", state(r), before);
                for (int left = 6; left >= 0; left--) {
                    Check.same("undo before change " + i, r.undo(), left);
                }
                Check.same("two shifts stay", r.pointX(2, 0), 37);
                Check.refuses("undo", r, Check.STATE, x -> x.undo());
            }
        }
    }

    /** What was undone is gone, and makes room for no older change. */
    private static void latestEightAfterUndo() {
        for (int undone = 0; undone <= 8; undone++) {
            for (int more = 0; more <= 9; more++) {
                Ruler r = new Ruler();
                for (int i = 1; i <= 11; i++) {
                    r.movePoint(0, 0, i, 0);
                }
                for (int i = 0; i < undone; i++) {
                    r.undo();
                }
                for (int i = 1; i <= more; i++) {
                    r.movePoint(0, 0, 0, i);
                }
                int left = Math.min(8, 8 - undone + more);
                Check.same("undoable", r.undoableCount(), left);
                for (int i = 1; i <= left; i++) {
                    r.undo();
                    int at = more - i;
                    Check.same("x", r.pointX(0, 0), at > 0 ? 0 : 11 - undone + at);
                    Check.same("y", r.pointY(0, 0), Math.max(0, at));
                }
                Check.refuses("an older one", r, Check.STATE, x -> x.undo());
            }
        }
    }

    /** The same after the history was cleared, wherever it stood. */
    private static void roundTheRing() {
        for (int before = 0; before <= 9; before++) {
            for (int after = 0; after <= 9; after++) {
                Ruler r = new Ruler();
                r.saveSnapshot();
                for (int i = 0; i < before; i++) {
                    r.shift(0, 0, 1);
                }
                r.restoreSnapshot();
                Check.same("cleared", r.undoableCount(), 0);
                for (int i = 0; i < after; i++) {
                    r.shift(0, 1, 0);
                }
                int left = Math.min(after, 8);
                for (int i = 1; i <= left; i++) {
                    Check.same("undo", r.undo(), left - i);
                    Check.same("x", r.pointX(0, 0), after - i);
                    Check.same("y", r.pointY(0, 0), 0);
                }
                Check.refuses("an older one", r, Check.STATE, x -> x.undo());
            }
        }
    }

    /** "if there is nothing to undo". */
    private static void nothingToUndo() {
        Ruler r = new Ruler();
        Check.same("a new object", r.undoableCount(), 0);
        Check.refuses("a new object", r, Check.STATE, x -> x.undo());
        r.reverse(0);
        Check.same("one change", r.undo(), 0);
        Check.refuses("undone", r, Check.STATE, x -> x.undo());
        Check.run(r, "x");
        Check.refuses("a wrong script", r, Check.STATE, x -> x.undo());
        r.shift(0, 2, 2);
        Check.same("a change after that", r.undo(), 0);
        Check.same("undone", state(r), state(new Ruler()));
    }

    /** "The input buffer, the parse error, the output and the snapshot are not affected." */
    private static void undoLeavesTheRest() {
        for (int i = 0; i < CHANGES.length; i++) {
            Ruler r = new Ruler();
            r.saveSnapshot();
            CHANGES[i].on(r);
            r.writeLengths(1);
            String output = Check.output(r);
            Check.load(r, "map king");
            Check.feed(r, "shore 5 6,7 8");
            r.undo();
            Check.same("the error", Check.error(r), "1 at 8");
            Check.same("the output", Check.output(r), output);
            Check.same("the buffer", r.addCoast(13), 3);
            Check.same("the buffer", Check.points(r, 3), "shore 5 6,7 8");
            Check.same("the error of the latest text", Check.error(r), "0 at -1");
            r.undo();
            Check.same("no error comes back", Check.error(r), "0 at -1");
            r.appendText(0, 0, 0, 0, 0);
            r.reverse(0);
            r.undo();
            Check.same("the buffer", r.appendText(0, 0, 0, 0, 0), 40);
            Check.same("the snapshot", r.restoreSnapshot(), 3);
            Check.same("the snapshot", state(r), state(new Ruler()));
        }
        Ruler r = new Ruler();
        r.reverse(0);
        r.saveSnapshot();
        r.undo();
        r.restoreSnapshot();
        Check.same("a snapshot of what was undone", r.pointX(0, 0), 20);
    }

    /** "the undo history is cleared, the snapshot is discarded". */
    private static void loadMapClears() {
        for (String map : new String[] {"map king;", "map taxicab;shore 1 2,3 4;"}) {
            for (int changes = 0; changes <= 9; changes++) {
                Ruler r = new Ruler();
                r.saveSnapshot();
                for (int i = 0; i < changes; i++) {
                    r.reverse(0);
                }
                Check.load(r, map);
                Check.same("the history", r.undoableCount(), 0);
                Check.same("the map", Check.map(r), map);
                Check.refuses("undo", r, Check.STATE, x -> x.undo());
                Check.refuses("restoreSnapshot", r, Check.STATE, x -> x.restoreSnapshot());
                r.setKingMetric(true);
                Check.same("a change after it", r.undo(), 0);
                Check.same("it is undone", Check.map(r), map);
            }
        }
    }

    /** "-1 if there is a parse error, in which case the map stays as it is". */
    private static void wrongMapClearsNothing() {
        for (String map : new String[] {"", "map", "map king;shore 1 2,3 4;island 1 2,3 4;",
            "map king;shore 7 7,8 8;shore 1001", "map king;shore 7 7,8 8;x"}) {
            Ruler r = new Ruler();
            r.insertPoint(0, 1, 6, 6);
            r.saveSnapshot();
            r.removeCoast(1);
            r.writeLengths(0);
            String before = Check.seen(r).replaceAll("error .* output", "");
            Check.same("a wrong map", Check.load(r, map), -1);
            Check.same("nothing but the error", Check.seen(r).replaceAll("error .* output", ""),
                    before);
            Check.same("the history", r.undo() + r.undo(), 1);
            Check.same("the history", state(r), state(new Ruler()));
            Check.same("the snapshot", r.restoreSnapshot(), 3);
            Check.same("the snapshot", Check.points(r, 0), "shore 0 0,6 6,4 3,8 0,12 5,20 5");
        }
    }

    // ---- the snapshot

    /** "if there is no snapshot". */
    private static void noSnapshot() {
        Ruler r = new Ruler();
        r.reverse(0);
        Check.refuses("never saved", r, Check.STATE, x -> x.restoreSnapshot());
        r.saveSnapshot();
        Check.same("saved", r.again().restoreSnapshot(), 3);
        Check.load(r, "map king");
        Check.same("after a wrong map", r.again().restoreSnapshot(), 3);
        Check.load(r, "map king;");
        Check.refuses("discarded", r, Check.STATE, x -> x.restoreSnapshot());
        r.saveSnapshot();
        Check.same("saved again", r.restoreSnapshot(), 0);
    }

    /** "Restores the snapshot, which is kept." */
    private static void snapshotIsKept() {
        for (int i = 0; i < CHANGES.length; i++) {
            Ruler r = new Ruler();
            r.insertPoint(2, 0, 40, 6);
            String saved = state(r);
            r.saveSnapshot();
            Check.same("saving leaves the map", state(r), saved);
            for (int times = 0; times < 3; times++) {
                CHANGES[i].on(r);
                Check.same("change " + i, state(r).equals(saved), false);
                Check.same("restored", r.restoreSnapshot(), 3);
                Check.same("restored", state(r), saved);
            }
            CHANGES[i].on(r);
            r.undo();
            Check.same("undone to the snapshot", state(r), saved);
        }
    }

    /** "An earlier snapshot is replaced." */
    private static void snapshotIsReplaced() {
        Ruler r = new Ruler();
        r.saveSnapshot();
        r.removeCoast(0);
        r.setKingMetric(true);
        r.saveSnapshot();
        Check.add(r, Check.row("shore", 33));
        Check.same("the later one", r.restoreSnapshot(), 2);
        Check.same("the later one", state(r), "map king;island 30 0,50 0,50 20,30 20;"
                + "island 35 5,45 5,40 15;12+0-5 gap 0");
        Check.add(r, "shore 1 1,2 2");
        Check.add(r, "shore 1 1,2 2");
        r.saveSnapshot();
        r.removeCoast(0);
        Check.same("a greater one", r.restoreSnapshot(), 4);
        Check.same("a greater one", Check.points(r, 3), "shore 1 1,2 2");
    }

    /** "a snapshot of the coastlines, the metric and the ledgers", of none to 6 coastlines. */
    private static void snapshotHoldsAll() {
        for (int coasts = 0; coasts <= 6; coasts++) {
            Ruler r = Check.with("map taxicab;" + "shore 1 2,3 4;".repeat(coasts));
            r.setKingMetric(true);
            if (coasts > 0) {
                r.fold(coasts - 1, 7);
                r.unfold(coasts - 1);
            }
            String saved = state(r);
            r.saveSnapshot();
            r.setKingMetric(false);
            for (int i = 0; i < coasts; i++) {
                r.removeCoast(0);
            }
            for (int i = 0; i < 6 - coasts; i++) {
                Check.add(r, "island 9 9,8 8,7 7");
            }
            if (coasts == 6) {
                Check.add(r, "shore 0 0,5 5");
            }
            r.writeLengths(0);
            String output = Check.output(r);
            Check.same("the number of coastlines", r.restoreSnapshot(), coasts);
            Check.same("all of it", state(r), saved);
            Check.same("the output stays", Check.output(r), output);
        }
        Ruler full = Check.with("map king;" + Check.row("shore", 33) + ";");
        full.fold(0, 0);
        full.fold(0, 0);
        full.saveSnapshot();
        full.movePoint(0, 128, -5, -6);
        full.removeCoast(0);
        full.restoreSnapshot();
        Check.same("129 points", full.pointCount(0), 129);
        Check.same("the last one", full.pointX(0, 128) + " " + full.pointY(0, 128), "32 0");
        full.movePoint(0, 128, -5, -6);
        full.undo();
        Check.same("the last one", full.pointX(0, 128) + " " + full.pointY(0, 128), "32 0");
    }

    /** "The undo history is cleared." */
    private static void restoringClearsTheHistory() {
        Ruler r = new Ruler();
        r.shift(0, 1, 1);
        r.saveSnapshot();
        Check.same("saving clears nothing", r.undoableCount(), 1);
        r.shift(0, 1, 1);
        Check.refuses("a byte of no output", r, Check.INDEX, x -> x.outputByte(0));
        r.restoreSnapshot();
        Check.same("cleared", r.undoableCount(), 0);
        Check.refuses("undo", r, Check.STATE, x -> x.undo());
        r.shift(0, 3, 3);
        Check.same("one change", r.undo(), 0);
        Check.same("undone", r.pointX(0, 0), 1);
    }

    /** Texts, their error and the output are no part of a snapshot. */
    private static void restoringLeavesTheRest() {
        Ruler r = new Ruler();
        r.writeLengths(0);
        Check.run(r, "fold 0 51;");
        Check.feed(r, "shore 5 6,7 8");
        r.saveSnapshot();
        Check.same("the buffer after saving", Check.held(r.again()), 20);
        Check.same("addCoast", r.addCoast(13), 3);
        r.writeLengths(1);
        Check.feed(r, "shore 1 2,3 4" + " ".repeat(27));
        Check.same("restored", r.restoreSnapshot(), 3);
        Check.same("the error", Check.error(r), "0 at -1");
        Check.same("the output", Check.output(r), "80 80");
        Check.same("the buffer", Check.held(r.again()), 40);
        Check.same("the buffer", r.addCoast(13), 3);
        Check.same("the buffer", Check.points(r, 3), "shore 1 2,3 4");
    }

    // ---- the output

    private static void written(String what, Ruler ruler, int coast, String due) {
        Check.same(what, ruler.writeLengths(coast), due.length());
        Check.same(what, Check.output(ruler), due);
    }

    /** "the first one with a single stick on a shore or with at most two sticks on an island". */
    private static void lastLevelWritten() {
        for (String kind : new String[] {"shore", "island"}) {
            for (int points = 2; points <= 129; points++) {
                if (points == 2 && kind.equals("island")) {
                    continue;
                }
                Ruler r = Check.with("map king;" + Check.row(kind, Math.min(points, 33)) + ";");
                Check.grow(r, 0, points);
                StringBuilder due = new StringBuilder();
                for (int level = 0; level <= 7; level++) {
                    due.append(level == 0 ? "" : " ").append(r.lengthAt(0, level));
                    if (r.stickCount(0, level) <= (kind.equals("island") ? 2 : 1)) {
                        break;
                    }
                }
                written(kind + " of " + points, r, 0, due.toString());
            }
        }
        Ruler r = Check.with("map king;shore 0 0,1 0;shore 0 0,1 0,2 0;island 0 0,1 0,2 0;"
                + "island 0 0,1 0,2 0,3 0;island 0 0,1 0,2 0,3 0,4 0;shore 0 0,1 0,2 0,3 0;");
        String[] due = {"1", "2 2", "4 4", "6 4", "8 8 8", "3 3 3"};
        for (int coast = 0; coast < 6; coast++) {
            written("coast " + coast, r, coast, due[coast]);
        }
        for (int coast : new int[] {-1, 6, Integer.MIN_VALUE, Integer.MAX_VALUE}) {
            Check.refuses("coast " + coast, r, Check.INDEX, x -> x.writeLengths(coast));
        }
    }

    /** "to the output, which is replaced"; "The output changes in writeLengths only." */
    private static void outputIsReplaced() {
        Ruler r = new Ruler();
        Check.same("a new object", Check.output(r), "");
        written("a long one", r, 0, "31 25 25");
        written("a shorter one", r, 1, "80 80");
        written("the long one again", r, 0, "31 25 25");
        for (int i = 0; i < CHANGES.length; i++) {
            Ruler changed = r.again();
            CHANGES[i].on(changed);
            Check.same("after change " + i, Check.output(changed), "31 25 25");
            changed.undo();
            Check.same("after its undo", Check.output(changed), "31 25 25");
        }
        Check.load(r, "map king;");
        Check.same("after loadMap", Check.output(r), "31 25 25");
        Check.refuses("of no coastline", r, Check.INDEX, x -> x.writeLengths(0));
        Check.same("after that", Check.output(r), "31 25 25");
        Ruler zero = Check.with("map king;shore 5 5,5 5;shore -1000 -1000,1000 1000;");
        written("length 0", zero, 0, "0");
        zero.setKingMetric(false);
        written("length 4000", zero, 1, "4000");
    }

    /** "The output changes in writeLengths only"; a snapshot stays until a map is loaded. */
    private static void outputAndSnapshotStay() {
        Check.Call[] wrong = {x -> Check.run(x, "reverse 0"), x -> Check.add(x, "shore 1 2"),
            x -> Check.load(x, "map"), x -> x.addCoast(0), x -> x.loadMap(0),
            x -> x.appendText(0, 0, 0, 0, 0), x -> x.undo()};
        for (Check.Call[] calls : new Check.Call[][] {CHANGES, IDLE, wrong}) {
            for (int i = 0; i < calls.length; i++) {
                Ruler r = new Ruler();
                r.removePoint(1, 0);
                r.saveSnapshot();
                String saved = state(r);
                r.undo();
                r.shift(0, 0, 1);
                r.writeLengths(0);
                calls[i].on(r);
                Check.same("the output after call " + i, Check.output(r), "31 25 25");
                Check.same("the snapshot after call " + i, r.restoreSnapshot(), 3);
                Check.same("the snapshot after call " + i, state(r), saved);
                Check.same("the output after it", Check.output(r), "31 25 25");
            }
        }
    }

    /** "if there is no such byte". */
    private static void noSuchByte() {
        Ruler r = new Ruler();
        for (int index : new int[] {-1, 0, 1, Integer.MIN_VALUE, Integer.MAX_VALUE}) {
            Check.refuses("an empty output", r, Check.INDEX, x -> x.outputByte(index));
        }
        r.writeLengths(0);
        int[] bytes = {'3', '1', ' ', '2', '5', ' ', '2', '5'};
        for (int i = 0; i < bytes.length; i++) {
            Check.same("byte " + i, r.outputByte(i), bytes[i]);
        }
        for (int index : new int[] {-1, 8, 9, Integer.MIN_VALUE, Integer.MAX_VALUE}) {
            Check.refuses("byte " + index, r, Check.INDEX, x -> x.outputByte(index));
        }
        r.writeLengths(1);
        Check.same("the last of a shorter one", r.outputByte(4), 48);
        Check.refuses("behind a shorter one", r, Check.INDEX, x -> x.outputByte(5));
        Check.refuses("of the one before", r, Check.INDEX, x -> x.outputByte(7));
    }

    /** "An object is used for at most 512 calls": the 512th is as good as the first. */
    private static void theLastOf512Calls() {
        Ruler r = new Ruler();
        for (int i = 1; i <= 503; i++) {
            r.movePoint(0, 0, i, 1000 - i);
        }
        for (int i = 7; i >= 0; i--) {
            Check.same("undo", r.undo(), i);
        }
        Check.same("the 512th call", r.pointX(0, 0), 495);
        Ruler texts = new Ruler();
        for (int i = 0; i < 255; i++) {
            texts.appendText(0x73686f72, 0x65203120, 0x312c3220, 0x32202020, 0x20202020);
            Check.same("text " + i, texts.runScript(20), -1);
        }
        Check.same("the error", Check.error(texts), "1 at 20");
    }

    /** What one of several objects is asked for, and its answer. */
    private interface Step {
        Object on(Ruler ruler, int object);
    }

    /** Each object has a map, a buffer, an error, an output, a past and a snapshot of its own. */
    private static void objectsApart() {
        Step[] steps = {(r, i) -> Check.feed(r, "map king;shore 0 " + i + ",9 9;"),
            (r, i) -> i == 2 ? r.loadMap(24) : r.runScript(9 + i), (r, i) -> Check.error(r),
            (r, i) -> r.insertPoint(0, 1, i, -i), (r, i) -> r.setKingMetric(i % 2 == 1),
            (r, i) -> saved(r), (r, i) -> r.writeLengths(0), (r, i) -> Check.output(r),
            (r, i) -> Check.add(r, "island 0 0,9 " + i + ",5 5" + ";".repeat(i / 2)),
            (r, i) -> r.lengthAfterFold(0, 5 + i, 0), (r, i) -> r.fold(0, 5 + i),
            (r, i) -> Check.feed(r, "shore " + i + " 1,2 " + i), (r, i) -> state(r),
            (r, i) -> i == 3 ? r.undoableCount() : r.undo(), (r, i) -> state(r),
            (r, i) -> r.addCoast(13), (r, i) -> Check.error(r), (r, i) -> Check.output(r),
            (r, i) -> r.undoableCount(), (r, i) -> state(r), (r, i) -> r.restoreSnapshot(),
            (r, i) -> state(r), (r, i) -> r.undoableCount()};
        String[] among = {"", "", "", ""};
        Ruler[] rulers = {new Ruler(), new Ruler(), new Ruler(), new Ruler()};
        for (Step step : steps) {
            for (int i = 0; i < rulers.length; i++) {
                among[i] += step.on(rulers[i], i) + "\n";
            }
        }
        for (int i = 0; i < rulers.length; i++) {
            StringBuilder alone = new StringBuilder();
            Ruler r = new Ruler();
            for (Step step : steps) {
                alone.append(step.on(r, i)).append('\n');
            }
            Check.same("object " + i + " among others", among[i], alone.toString());
        }
    }

    private static String saved(Ruler ruler) {
        ruler.saveSnapshot();
        return state(ruler);
    }
}
