/** Promises 24 to 27: a test for each sentence of the document that names a boundary case. */
public final class ComparingBoundariesTest {
    private static final int NO_CONTOUR = ContourSimplifier.NO_SUCH_CONTOUR;
    private static final int BAD = ContourSimplifier.BAD_VALUE;
    private static final int NOT = ContourSimplifier.NOT_POSSIBLE;
    private static final int MIN = Integer.MIN_VALUE;
    private static final int MAX = Integer.MAX_VALUE;
    /** Numbers that no contour has if there are few of them. */
    private static final int[] FAR = {-1, -2, 999, 65536, MIN, MAX};

    public static void main(String[] args) throws IllegalAccessException {
        Check.promises(ComparingBoundariesTest.class, 24, 27);
        Check.end();
    }

    private static ContourSimplifier traced(int width, int height, String text, int connectivity, int contours) {
        ContourSimplifier s = Check.picture(width, height, text);
        Check.due("trace " + connectivity, s.trace(1, connectivity), contours);
        return s;
    }

    /** Two contours, of each of which a vertex is removed: 0,0 1,0 1,1 2,1 2,2 0,2 and 3,0 4,0 4,1 3,1. */
    private static ContourSimplifier used() {
        ContourSimplifier s = traced(5, 3, "baab/bb/", 4, 2);
        Check.due("remove", s.remove(0, 1), 1);
        Check.due("remove", s.remove(1, 3), 1);
        Check.type(s, "2b/j");
        return s;
    }

    private static ContourSimplifier greatest() {
        return traced(16, 12, "16b/16b/16b/16b/16b/16b/16b/16b/16b/16b/16b/16b", 4, 1);
    }

    /** A frame, a hole in it, and an island in the hole, of 5, 3 and 1 pixels' width. */
    private static ContourSimplifier island() {
        return traced(5, 5, "5b/b3ab/babab/b3ab/5b", 4, 3);
    }

    private static final int[][] TOO_FAR = {{-11, 2}, {-12, 2}, {MIN, 2}, {41, 2}, {42, 2}, {MAX, 2}, {2, -11}, {2, -12},
        {2, MIN}, {2, 41}, {2, 42}, {2, MAX}, {-11, -11}, {41, 41}, {-11, 41}};
    private static final int[][] FARTHEST = {{-10, -10}, {-10, 40}, {40, -10}, {40, 40}, {-10, 2}, {40, 2}, {2, -10},
        {2, 40}};

    // ---- 24: covers

    static void promise24AContourThatIsNotThereIsRefused() {
        ContourSimplifier s = used();
        Check.due("behind the last", s.covers(2, 1, 1), NO_CONTOUR);
        for (int c : FAR) {
            Check.due("covers " + c, s.covers(c, 1, 1), NO_CONTOUR);
        }
        Check.due("without contours", new ContourSimplifier().covers(0, 1, 1), NO_CONTOUR);
        Check.dueUnchanged(s, used());
    }

    static void promise24APointTooFarAwayIsRefused() {
        ContourSimplifier s = used();
        for (int[] p : TOO_FAR) {
            Check.due("covers 0 " + p[0] + " " + p[1], s.covers(0, p[0], p[1]), BAD);
        }
        Check.dueUnchanged(s, used());
    }

    static void promise24TheContourIsNamedFirst() {
        ContourSimplifier s = used();
        Check.due("px too great", s.covers(2, 41, 1), NO_CONTOUR);
        Check.due("py too small", s.covers(-1, 1, -11), NO_CONTOUR);
    }

    static void promise24TheFarthestPointsAreAllowed() {
        ContourSimplifier s = greatest();
        for (int[] p : FARTHEST) {
            Check.due("covers 0 " + p[0] + " " + p[1], s.covers(0, p[0], p[1]), 0);
        }
    }

    static void promise24TheLeftBorderIsCoveredTheRightIsNot() {
        // 1,1 4,1 4,3 1,3
        ContourSimplifier s = traced(5, 4, "/a3b/a3b/", 4, 1);
        int[] xs = {1, 2, 3, 7, 8, 9};
        int[] want = {0, 1, 1, 1, 0, 0};
        for (int i = 0; i < xs.length; i++) {
            for (int py = 2; py <= 5; py++) {
                Check.due("covers 0 " + xs[i] + " " + py, s.covers(0, xs[i], py), want[i]);
            }
        }
    }

    static void promise24TheUpperBorderIsCoveredTheLowerIsNot() {
        ContourSimplifier s = traced(5, 4, "/a3b/a3b/", 4, 1);
        int[] ys = {1, 2, 3, 5, 6, 7};
        int[] want = {0, 1, 1, 1, 0, 0};
        for (int i = 0; i < ys.length; i++) {
            for (int px = 2; px <= 7; px++) {
                Check.due("covers 0 " + px + " " + ys[i], s.covers(0, px, ys[i]), want[i]);
            }
        }
    }

    static void promise24OfTheFourCornersOnlyTheFirstIsCovered() {
        ContourSimplifier s = traced(5, 4, "/a3b/a3b/", 4, 1);
        Check.due("1,1", s.covers(0, 2, 2), 1);
        Check.due("4,1", s.covers(0, 8, 2), 0);
        Check.due("4,3", s.covers(0, 8, 6), 0);
        Check.due("1,3", s.covers(0, 2, 6), 0);
    }

    static void promise24BordersOfTheGreatestPicture() {
        ContourSimplifier s = greatest();
        int[][] points = {{0, 0, 1}, {31, 23, 1}, {32, 23, 0}, {31, 24, 0}, {-1, 0, 0}, {0, -1, 0}, {0, 23, 1}, {31, 0, 1}};
        for (int[] p : points) {
            Check.due("covers 0 " + p[0] + " " + p[1], s.covers(0, p[0], p[1]), p[2]);
        }
    }

    static void promise24APointOnASlopeIsCoveredIfTheContourIsAtItsRight() {
        ContourSimplifier right = traced(4, 4, "4b/4b/4b/4b", 4, 1);
        right.remove(0, 3);
        // 0,0 4,0 4,4
        ContourSimplifier left = traced(4, 4, "4b/4b/4b/4b", 4, 1);
        left.remove(0, 1);
        // 0,0 4,4 0,4
        for (int p = 0; p < 8; p++) {
            Check.due("the slope at the left, " + p, right.covers(0, p, p), 1);
            Check.due("the slope at the right, " + p, left.covers(0, p, p), 0);
            Check.due("left of the slope at the left, " + p, right.covers(0, p - 1, p), 0);
            Check.due("left of the slope at the right, " + p, left.covers(0, p - 1, p), p > 0 ? 1 : 0);
        }
        Check.due("the lower end, at the left", right.covers(0, 8, 8), 0);
        Check.due("the lower end, at the right", left.covers(0, 8, 8), 0);
    }

    static void promise24ASlopeThatPassesBetweenHalves() {
        // 0,0 3,0 3,2: the slope is at x = 3 / 4 for y = 1 / 2, at 3 / 2 for 1, and at 9 / 4 for 3 / 2
        ContourSimplifier s = traced(3, 3, "3b/3b/", 4, 1);
        s.remove(0, 3);
        int[][] first = {{1, 1, 0}, {2, 1, 1}, {2, 2, 0}, {3, 2, 1}, {4, 3, 0}, {5, 3, 1}};
        for (int[] p : first) {
            Check.due("covers 0 " + p[0] + " " + p[1], s.covers(0, p[0], p[1]), p[2]);
        }
    }

    static void promise24ThePolygonCountsNotTheTracedContour() {
        ContourSimplifier s = traced(4, 4, "4b/4b/4b/4b", 4, 1);
        Check.due("before", s.covers(0, 7, 1), 1);
        s.remove(0, 1);
        Check.due("after", s.covers(0, 7, 1), 0);
        s.undo();
        Check.due("taken back", s.covers(0, 7, 1), 1);
    }

    static void promise24AnEvenNumberOfSidesAtTheRight() {
        // 0,0 1,0 1,1 2,1 2,0 3,0 3,2 0,2: a gap between two teeth
        ContourSimplifier s = traced(3, 3, "bab/3b/", 4, 1);
        int[] want = {0, 1, 1, 0, 0, 1, 1, 0};
        for (int px = -1; px <= 6; px++) {
            Check.due("covers 0 " + px + " 1", s.covers(0, px, 1), want[px + 1]);
        }
    }

    static void promise24APlaceWhereTheContourIsTwice() {
        // the corner 1,1 belongs to the lower right pixel, as its upper and left border do
        ContourSimplifier s = traced(3, 3, "b/ab/", 8, 1);
        int[][] points = {{2, 2, 1}, {1, 1, 1}, {3, 3, 1}, {1, 2, 0}, {2, 1, 0}, {3, 1, 0}, {1, 3, 0}};
        for (int[] p : points) {
            Check.due("covers 0 " + p[0] + " " + p[1], s.covers(0, p[0], p[1]), p[2]);
        }
    }

    static void promise24TheSidesOfOtherContoursDoNotCount() {
        // 0,0 1,0 1,1 0,1 and 2,0 3,1 2,1
        ContourSimplifier s = traced(3, 3, "bab", 8, 2);
        s.remove(1, 1);
        int[][] points = {{-1, 1, 0, 0}, {0, 1, 1, 0}, {1, 1, 1, 0}, {2, 1, 0, 0}, {3, 1, 0, 0}, {4, 1, 0, 1}, {5, 1, 0, 0}};
        for (int[] p : points) {
            Check.due("covers 0 " + p[0] + " " + p[1], s.covers(0, p[0], p[1]), p[2]);
            Check.due("covers 1 " + p[0] + " " + p[1], s.covers(1, p[0], p[1]), p[3]);
        }
    }

    static void promise24AHoleCoversWhatIsInIt() {
        ContourSimplifier s = island();
        int[][] points = {{1, 1, 0}, {2, 2, 1}, {3, 3, 1}, {5, 5, 1}, {7, 7, 1}, {8, 5, 0}, {5, 8, 0}};
        for (int[] p : points) {
            Check.due("covers 2 " + p[0] + " " + p[1], s.covers(2, p[0], p[1]), p[2]);
        }
    }

    // ---- 25: isCovered

    static void promise25APointTooFarAwayIsRefused() {
        ContourSimplifier s = used();
        for (int[] p : TOO_FAR) {
            Check.due("isCovered " + p[0] + " " + p[1], s.isCovered(p[0], p[1]), BAD);
            Check.due("without contours", new ContourSimplifier().isCovered(p[0], p[1]), BAD);
        }
        Check.dueUnchanged(s, used());
    }

    static void promise25TheFarthestPointsAreAllowed() {
        ContourSimplifier s = greatest();
        for (int[] p : FARTHEST) {
            Check.due("isCovered " + p[0] + " " + p[1], s.isCovered(p[0], p[1]), 0);
        }
    }

    static void promise25WithoutContoursNothingIsCovered() {
        ContourSimplifier s = new ContourSimplifier();
        s.fill(0, 0, 8, 8, 9);
        Check.due("isCovered", s.isCovered(3, 3), 0);
        s.trace(9, 4);
        Check.due("isCovered after trace", s.isCovered(3, 3), 1);
        s.reset(8, 8);
        Check.due("isCovered after reset", s.isCovered(3, 3), 0);
    }

    static void promise25ByNoneOneTwoAndThreePolygons() {
        ContourSimplifier s = island();
        Check.due("none", s.isCovered(-1, 5), 0);
        Check.due("one", s.isCovered(1, 5), 1);
        Check.due("two", s.isCovered(3, 5), 0);
        Check.due("three", s.isCovered(5, 5), 1);
    }

    static void promise25BordersOfAHole() {
        ContourSimplifier s = traced(3, 3, "3b/bab/3b", 4, 2);
        int[][] points = {{2, 2, 0}, {3, 2, 0}, {2, 3, 0}, {4, 2, 1}, {2, 4, 1}, {4, 4, 1}, {3, 4, 1}, {4, 3, 1}, {1, 2, 1},
            {2, 1, 1}};
        for (int[] p : points) {
            Check.due("isCovered " + p[0] + " " + p[1], s.isCovered(p[0], p[1]), p[2]);
        }
    }

    // ---- 26: misfit

    static void promise26WithoutATraceItIsNotPossible() {
        ContourSimplifier s = new ContourSimplifier();
        Check.due("at first", s.misfit(), NOT);
        s.fill(0, 0, 8, 8, 9);
        Check.due("with pixels", s.misfit(), NOT);
        Check.due("refused trace", s.trace(0, 4), BAD);
        Check.due("after it", s.misfit(), NOT);
    }

    static void promise26AfterResetItIsNotPossible() {
        ContourSimplifier s = used();
        s.reset(5, 3);
        Check.due("misfit", s.misfit(), NOT);
        s.trace(1, 4);
        Check.due("after another trace", s.misfit(), 0);
    }

    static void promise26AfterReadPictureItIsNotPossible() {
        ContourSimplifier s = used();
        Check.due("readPicture", s.readPicture() < 0 ? 1 : 0, 0);
        Check.due("misfit", s.misfit(), NOT);
    }

    static void promise26AfterRefusedCallsItIsPossible() {
        ContourSimplifier s = traced(3, 3, "b/bb/", 4, 1);
        s.reset(2, 2);
        s.trace(10, 4);
        s.type('5');
        Check.due("fault", s.readPicture(), -100);
        Check.due("misfit", s.misfit(), 0);
    }

    static void promise26AfterATraceWithoutContoursItIsPossible() {
        ContourSimplifier s = new ContourSimplifier();
        Check.due("trace", s.trace(5, 4), 0);
        Check.due("all fit", s.misfit(), 0);
        s.fill(0, 0, 8, 8, 4);
        Check.due("below the threshold", s.misfit(), 0);
        s.fill(0, 0, 8, 8, 5);
        Check.due("at the threshold", s.misfit(), 64);
    }

    static void promise26ALevelAtTheThresholdIsInside() {
        ContourSimplifier s = new ContourSimplifier();
        s.reset(3, 3);
        s.fill(0, 0, 3, 3, 5);
        Check.due("trace", s.trace(5, 4), 1);
        Check.due("at the threshold", s.misfit(), 0);
        s.set(1, 1, 4);
        Check.due("just below", s.misfit(), 1);
        s.set(1, 1, 9);
        Check.due("far above", s.misfit(), 0);
    }

    static void promise26AllPixelsOrNone() {
        ContourSimplifier s = greatest();
        Check.due("none", s.misfit(), 0);
        s.fill(0, 0, 16, 12, 0);
        Check.due("all", s.misfit(), 192);
    }

    static void promise26BothKindsOfMisfitsCount() {
        ContourSimplifier s = traced(3, 3, "b/bb/", 4, 1);
        s.set(0, 0, 0);
        Check.due("a covered one outside", s.misfit(), 1);
        s.set(2, 2, 1);
        Check.due("and one inside that is not covered", s.misfit(), 2);
    }

    static void promise26ACenterOnASlopeIsCoveredIfTheContourIsAtItsRight() {
        ContourSimplifier left = traced(4, 4, "4b/4b/4b/4b", 4, 1);
        left.remove(0, 1);
        // 0,0 4,4 0,4: the four centers on the slope are not covered, nor are six beyond it
        Check.due("the slope at the right", left.misfit(), 10);
        ContourSimplifier right = traced(4, 4, "4b/4b/4b/4b", 4, 1);
        right.remove(0, 3);
        Check.due("the slope at the left", right.misfit(), 6);
    }

    static void promise26TheCenterOfAPixelDecides() {
        // the slope passes through the border between the two pixels, whichever corner is removed
        for (int v = 0; v < 4; v++) {
            ContourSimplifier lying = traced(3, 3, "bb", 4, 1);
            lying.remove(0, v);
            Check.due("two beside each other, without " + v, lying.misfit(), 1);
            ContourSimplifier standing = traced(3, 3, "b/b", 4, 1);
            standing.remove(0, v);
            Check.due("two above each other, without " + v, standing.misfit(), 1);
        }
    }

    static void promise26PixelsInAHoleFitIfTheyAreOutside() {
        ContourSimplifier s = island();
        Check.due("as traced", s.misfit(), 0);
        s.fill(1, 1, 3, 3, 1);
        Check.due("the hole is filled", s.misfit(), 8);
        s.fill(1, 1, 3, 3, 0);
        Check.due("the island is gone", s.misfit(), 1);
    }

    // ---- 27: deviation

    private static void dueFraction(String what, ContourSimplifier s, int contour, int over, int under) {
        Check.due("over, " + what, s.deviation(contour, 0), over);
        Check.due("under, " + what, s.deviation(contour, 1), under);
    }

    static void promise27AContourThatIsNotThereIsRefused() {
        ContourSimplifier s = used();
        Check.due("behind the last", s.deviation(2, 0), NO_CONTOUR);
        for (int c : FAR) {
            Check.due("deviation " + c, s.deviation(c, 1), NO_CONTOUR);
        }
        Check.due("without contours", new ContourSimplifier().deviation(0, 0), NO_CONTOUR);
        Check.dueUnchanged(s, used());
    }

    static void promise27APartThatIsNeither0Nor1IsRefused() {
        ContourSimplifier s = used();
        for (int part : new int[] {-1, -2, MIN, 2, 3, 256, MAX}) {
            Check.due("deviation 0 " + part, s.deviation(0, part), BAD);
        }
        Check.dueUnchanged(s, used());
    }

    static void promise27TheContourIsNamedFirst() {
        ContourSimplifier s = used();
        Check.due("deviation 2 2", s.deviation(2, 2), NO_CONTOUR);
        Check.due("deviation -1 -1", s.deviation(-1, -1), NO_CONTOUR);
    }

    static void promise27WithoutARemovedVertexItIs0Over1() {
        ContourSimplifier s = traced(3, 3, "b/bb/", 4, 1);
        dueFraction("as traced", s, 0, 0, 1);
        s.remove(0, 1);
        s.undo();
        dueFraction("taken back", s, 0, 0, 1);
        s.remove(0, 1);
        s.insert(0, 1);
        dueFraction("inserted", s, 0, 0, 1);
    }

    static void promise27OnlyTheVerticesOfTheContourCount() {
        ContourSimplifier s = traced(5, 3, "baabb/baabb/", 4, 2);
        s.remove(1, 0);
        dueFraction("none of the first", s, 0, 0, 1);
        dueFraction("one of the second", s, 1, 2, 1);
    }

    static void promise27TheFractionIsInLowestTerms() {
        ContourSimplifier square = traced(3, 3, "bb/bb/", 4, 1);
        square.remove(0, 2);
        dueFraction("16 / 8", square, 0, 2, 1);
        ContourSimplifier pixel = traced(3, 3, "b", 4, 1);
        pixel.remove(0, 0);
        dueFraction("1 / 2", pixel, 0, 1, 2);
        ContourSimplifier oblong = traced(3, 3, "3b/", 4, 1);
        oblong.remove(0, 3);
        dueFraction("9 / 10", oblong, 0, 9, 10);
        ContourSimplifier great = greatest();
        great.remove(0, 1);
        dueFraction("36864 / 400", great, 0, 2304, 25);
    }

    static void promise27OfSeveralRemovedVerticesTheGreatestCounts() {
        // 0,0 1,0 1,1 2,1 2,2 0,2 without 1,0 and 1,1: 1 / 5 and 1 / 5; without 2,1 too: 1 / 2 for 1,0 and 2,1
        ContourSimplifier s = traced(3, 3, "b/bb/", 4, 1);
        s.remove(0, 1);
        s.remove(0, 2);
        dueFraction("both beside one side", s, 0, 1, 5);
        s.remove(0, 3);
        dueFraction("1,1 is on the side", s, 0, 1, 2);
        // 0,0 3,0 3,1 1,1 1,2 0,2 without 1,1 and 0,0: 4 / 5 and 36 / 13
        ContourSimplifier t = traced(3, 3, "3b/b/", 4, 1);
        t.remove(0, 3);
        dueFraction("1,1", t, 0, 4, 5);
        t.remove(0, 0);
        dueFraction("0,0 is farther", t, 0, 36, 13);
        // 0,0 3,0 3,1 1,1 1,2 3,2 3,3 0,3: of the five beside the side from 3,0 to 0,3 the last is the farthest
        ContourSimplifier w = traced(3, 3, "3b/b/3b", 8, 1);
        for (int v : new int[] {2, 3, 5, 6, 4}) {
            w.remove(0, v);
        }
        dueFraction("3,3 to the slope", w, 0, 9, 2);
        // the other way about in the order of numbers: 0,0 3,0 3,3 2,3 2,1 0,1, without 3,0 and 2,1
        ContourSimplifier u = traced(3, 3, "3b/aab/aab", 4, 1);
        u.remove(0, 4);
        dueFraction("2,1", u, 0, 2, 1);
        u.remove(0, 1);
        dueFraction("3,0 is farther", u, 0, 9, 2);
    }

    static void promise27TheNearestPointMayBeTheBeginningOfTheSide() {
        // 0,0 1,0 1,3 4,3 4,4 0,4 without 4,3 and 4,4: both are nearest to 1,3, the beginning of the side to 0,4
        ContourSimplifier s = traced(4, 4, "b/b/b/4b", 4, 1);
        s.remove(0, 3);
        s.remove(0, 4);
        dueFraction("3 and 1 away", s, 0, 10, 1);
    }

    static void promise27TheNearestPointMayBeTheEndOfTheSide() {
        // 3,0 4,0 4,2 0,2 0,1 3,1 without 0,1 and 0,2: both are nearest to 3,1, the end of the side from 4,2
        ContourSimplifier s = traced(4, 3, "3ab/4b/", 4, 1);
        s.remove(0, 4);
        s.remove(0, 3);
        dueFraction("3 and 1 away", s, 0, 10, 1);
    }

    static void promise27TheSideAroundTheEndOfTheContour() {
        // of 0,0 3,0 3,2 0,2 the side from 0,2 to 3,0 passes the first vertex, that from 3,2 to 0,0 the last one
        ContourSimplifier first = traced(3, 3, "3b/3b/", 4, 1);
        first.remove(0, 0);
        dueFraction("the first", first, 0, 36, 13);
        ContourSimplifier last = traced(3, 3, "3b/3b/", 4, 1);
        last.remove(0, 3);
        dueFraction("the last", last, 0, 36, 13);
    }
}
