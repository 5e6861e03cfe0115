import java.util.ArrayList;
import java.util.List;

/**
 * A CoastlineRuler that keeps its calls: it refuses the 513th, of which the document promises
 * nothing, and makes another object on which the same calls have been made.
 */
final class Ruler {
    /** A call of the face. */
    interface Call<A> {
        A on(CoastlineRuler ruler);
    }

    private static final int MOST_CALLS = 512;

    private final CoastlineRuler ruler = new CoastlineRuler();
    private final List<Call<?>> calls = new ArrayList<>();

    /** Another object with the same calls behind it, also those that threw. */
    Ruler again() {
        Ruler twin = new Ruler();
        for (Call<?> call : calls) {
            try {
                twin.make(call);
            } catch (RuntimeException e) {
                continue;
            }
        }
        return twin;
    }

    private <A> A make(Call<A> call) {
        if (calls.size() == MOST_CALLS) {
            throw new AssertionError("the test makes more than 512 calls on one object");
        }
        calls.add(call);
        return call.on(ruler);
    }

    int appendText(int a, int b, int c, int d, int e) {
        return make(r -> r.appendText(a, b, c, d, e));
    }

    int loadMap(int length) {
        return make(r -> r.loadMap(length));
    }

    int errorCode() {
        return make(r -> r.errorCode());
    }

    int errorOffset() {
        return make(r -> r.errorOffset());
    }

    int coastCount() {
        return make(r -> r.coastCount());
    }

    boolean usesKingMetric() {
        return make(r -> r.usesKingMetric());
    }

    boolean isIsland(int coast) {
        return make(r -> r.isIsland(coast));
    }

    int pointCount(int coast) {
        return make(r -> r.pointCount(coast));
    }

    int pointX(int coast, int point) {
        return make(r -> r.pointX(coast, point));
    }

    int pointY(int coast, int point) {
        return make(r -> r.pointY(coast, point));
    }

    int pointDistance(int coast, int first, int second) {
        return make(r -> r.pointDistance(coast, first, second));
    }

    int nearestPoint(int coast, int x, int y) {
        return make(r -> r.nearestPoint(coast, x, y));
    }

    int lengthAt(int coast, int level) {
        return make(r -> r.lengthAt(coast, level));
    }

    int stickCount(int coast, int level) {
        return make(r -> r.stickCount(coast, level));
    }

    int stickStart(int coast, int level, int stick) {
        return make(r -> r.stickStart(coast, level, stick));
    }

    int stickLength(int coast, int level, int stick) {
        return make(r -> r.stickLength(coast, level, stick));
    }

    int longestStick(int coast, int level) {
        return make(r -> r.longestStick(coast, level));
    }

    int lengthGain(int coast, int level) {
        return make(r -> r.lengthGain(coast, level));
    }

    int levelOfGreatestGain(int coast) {
        return make(r -> r.levelOfGreatestGain(coast));
    }

    int coarsestLevelFor(int coast, int length) {
        return make(r -> r.coarsestLevelFor(coast, length));
    }

    int coarsestExactLevel(int coast) {
        return make(r -> r.coarsestExactLevel(coast));
    }

    int totalLength(int level) {
        return make(r -> r.totalLength(level));
    }

    int longestCoast(int level) {
        return make(r -> r.longestCoast(level));
    }

    double refinementRatio(int coast, int level) {
        return make(r -> r.refinementRatio(coast, level));
    }

    float meanStickLength(int coast, int level) {
        return make(r -> r.meanStickLength(coast, level));
    }

    int doubledArea(int coast) {
        return make(r -> r.doubledArea(coast));
    }

    boolean isCounterclockwise(int coast) {
        return make(r -> r.isCounterclockwise(coast));
    }

    boolean contains(int coast, int x, int y) {
        return make(r -> r.contains(coast, x, y));
    }

    boolean encloses(int island, int coast) {
        return make(r -> r.encloses(island, coast));
    }

    int innermostIslandAround(int coast) {
        return make(r -> r.innermostIslandAround(coast));
    }

    int ringDepth(int coast) {
        return make(r -> r.ringDepth(coast));
    }

    int boxWidth(int coast) {
        return make(r -> r.boxWidth(coast));
    }

    int boxHeight(int coast) {
        return make(r -> r.boxHeight(coast));
    }

    int foldObstacle(int coast, int height) {
        return make(r -> r.foldObstacle(coast, height));
    }

    int lengthAfterFold(int coast, int height, int level) {
        return make(r -> r.lengthAfterFold(coast, height, level));
    }

    int lengthWithoutPoint(int coast, int point) {
        return make(r -> r.lengthWithoutPoint(coast, point));
    }

    int leastImportantPoint(int coast) {
        return make(r -> r.leastImportantPoint(coast));
    }

    int lengthInOtherMetric(int coast, int level) {
        return make(r -> r.lengthInOtherMetric(coast, level));
    }

    int loadedPoints() {
        return make(r -> r.loadedPoints());
    }

    int addedPoints() {
        return make(r -> r.addedPoints());
    }

    int removedPoints() {
        return make(r -> r.removedPoints());
    }

    int ledgerGap() {
        return make(r -> r.ledgerGap());
    }

    int addCoast(int length) {
        return make(r -> r.addCoast(length));
    }

    int removeCoast(int coast) {
        return make(r -> r.removeCoast(coast));
    }

    int fold(int coast, int height) {
        return make(r -> r.fold(coast, height));
    }

    int unfold(int coast) {
        return make(r -> r.unfold(coast));
    }

    int movePoint(int coast, int point, int x, int y) {
        return make(r -> r.movePoint(coast, point, x, y));
    }

    int insertPoint(int coast, int point, int x, int y) {
        return make(r -> r.insertPoint(coast, point, x, y));
    }

    int removePoint(int coast, int point) {
        return make(r -> r.removePoint(coast, point));
    }

    int shift(int coast, int dx, int dy) {
        return make(r -> r.shift(coast, dx, dy));
    }

    int reverse(int coast) {
        return make(r -> r.reverse(coast));
    }

    boolean setKingMetric(boolean isKing) {
        return make(r -> r.setKingMetric(isKing));
    }

    int runScript(int length) {
        return make(r -> r.runScript(length));
    }

    int writeLengths(int coast) {
        return make(r -> r.writeLengths(coast));
    }

    int outputByte(int index) {
        return make(r -> r.outputByte(index));
    }

    int undoableCount() {
        return make(r -> r.undoableCount());
    }

    int undo() {
        return make(r -> r.undo());
    }

    void saveSnapshot() {
        make(r -> {
            r.saveSnapshot();
            return null;
        });
    }

    int restoreSnapshot() {
        return make(r -> r.restoreSnapshot());
    }
}
