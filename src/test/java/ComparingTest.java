/** Promises 24 to 27: points, pixels and distances. */
public final class ComparingTest {
    private static final int BAD = ContourSimplifier.BAD_VALUE;
    private static final int NO_CONTOUR = ContourSimplifier.NO_SUCH_CONTOUR;

    public static void main(String[] args) {
        covers();
        coversSlopes();
        isCovered();
        misfit();
        deviationOfNone();
        deviationAcross();
        deviationToEnds();
        Check.end();
    }

    private static void covers() {
        // 1,1 4,1 4,3 1,3: the left and the upper border belong to it, the others do not
        ContourSimplifier s = Check.picture(5, 4, "/a3b/a3b/");
        s.trace(1, 4);
        for (int px = -10; px <= 12; px++) {
            for (int py = -1; py <= 8; py++) {
                boolean isIn = px >= 2 && px < 8 && py >= 2 && py < 6;
                Check.due("24 covers " + px + " " + py, s.covers(0, px, py), isIn ? 1 : 0);
            }
        }
        int[][] edges = {{-10, -10, 0}, {40, 40, 0}, {-10, 4, 0}, {40, 4, 0}, {-11, 4, BAD}, {41, 4, BAD}, {4, -11, BAD},
            {4, 41, BAD}, {Integer.MIN_VALUE, 4, BAD}, {4, Integer.MAX_VALUE, BAD}};
        for (int[] e : edges) {
            Check.due("24 covers " + e[0] + " " + e[1], s.covers(0, e[0], e[1]), e[2]);
            Check.due("25 isCovered " + e[0] + " " + e[1], s.isCovered(e[0], e[1]), e[2]);
        }
        Check.due("24 contour 1", s.covers(1, 4, 4), NO_CONTOUR);
        Check.due("24 contour -1", s.covers(-1, 4, 4), NO_CONTOUR);
        Check.due("24 the contour comes first", s.covers(1, 41, 4), NO_CONTOUR);
    }

    private static void coversSlopes() {
        ContourSimplifier s = Check.picture(4, 4, "4b/4b/4b/4b");
        s.trace(1, 4);
        s.remove(0, 1);
        // 0,0 4,4 0,4: on the slope itself nothing is to the right
        for (int p = 0; p <= 8; p++) {
            for (int q = 0; q <= 8; q++) {
                Check.due("24 falling " + p + " " + q, s.covers(0, p, q), p < q && q < 8 ? 1 : 0);
            }
        }
        s.undo();
        s.remove(0, 0);
        // 4,0 4,4 0,4: the slope belongs to it, as the side at the right is beyond
        for (int p = 0; p <= 8; p++) {
            for (int q = 0; q <= 8; q++) {
                boolean isIn = p >= 8 - q && p < 8 && q < 8;
                Check.due("24 rising " + p + " " + q, s.covers(0, p, q), isIn ? 1 : 0);
            }
        }
    }

    private static void isCovered() {
        ContourSimplifier s = Check.picture(7, 5, "7b/b5ab/babbbab/b5ab/7b");
        s.trace(1, 4);
        int[][] want = {{1, 5, 1}, {3, 5, 0}, {5, 5, 1}, {7, 5, 1}, {11, 5, 0}, {13, 5, 1}, {14, 5, 0}, {-1, 5, 0}};
        for (int[] w : want) {
            Check.due("25 isCovered " + w[0] + " " + w[1], s.isCovered(w[0], w[1]), w[2]);
        }
        Check.due("25 by the frame", s.covers(0, 7, 5), 1);
        Check.due("25 by the island", s.covers(1, 7, 5), 1);
        Check.due("25 by the hole", s.covers(2, 7, 5), 1);
        Check.due("25 without contours", new ContourSimplifier().isCovered(3, 3), 0);
        Check.due("25 wrong without contours", new ContourSimplifier().isCovered(3, 41), BAD);
    }

    private static void misfit() {
        ContourSimplifier s = Check.picture(3, 3, "b/bb/");
        Check.due("26 before trace", s.misfit(), ContourSimplifier.NOT_POSSIBLE);
        s.trace(1, 4);
        Check.due("26 as traced", s.misfit(), 0);
        s.simplify(2);
        // 0,0 2,2 0,2: the centers of 0,0 and 1,1 are on the slope, and not covered
        Check.due("26 simplified", s.misfit(), 2);
        s.set(0, 0, 0);
        Check.due("26 a pixel less", s.misfit(), 1);
        s.set(2, 0, 9);
        Check.due("26 a pixel that is not covered", s.misfit(), 2);
        s.set(0, 1, 0);
        Check.due("26 a covered pixel of less level", s.misfit(), 3);
        Check.due("26 wrong trace", s.trace(0, 4), BAD);
        Check.due("26 still", s.misfit(), 3);
        s.reset(3, 3);
        Check.due("26 after reset", s.misfit(), ContourSimplifier.NOT_POSSIBLE);
        Check.due("26 no contours", s.trace(5, 4), 0);
        Check.due("26 all fit", s.misfit(), 0);
        s.fill(0, 0, 3, 3, 4);
        Check.due("26 below the threshold", s.misfit(), 0);
        s.fill(0, 0, 3, 2, 5);
        Check.due("26 at the threshold", s.misfit(), 6);
        Check.due("26 read", s.readPicture(), 9);
        Check.due("26 after readPicture", s.misfit(), ContourSimplifier.NOT_POSSIBLE);
    }

    private static void fraction(String what, ContourSimplifier s, int over, int under) {
        Check.due("27 over, " + what, s.deviation(0, 0), over);
        Check.due("27 under, " + what, s.deviation(0, 1), under);
    }

    private static void deviationOfNone() {
        ContourSimplifier s = Check.picture(3, 3, "b/bb/");
        Check.due("27 no contours", s.deviation(0, 0), NO_CONTOUR);
        s.trace(1, 4);
        fraction("none removed", s, 0, 1);
        Check.due("27 part 2", s.deviation(0, 2), BAD);
        Check.due("27 part -1", s.deviation(0, -1), BAD);
        Check.due("27 contour 1", s.deviation(1, 0), NO_CONTOUR);
        Check.due("27 contour -1", s.deviation(-1, 2), NO_CONTOUR);
        // 3,1 and 2,2 beside the line from 3,0 to 1,2, and 2,1 on it
        ContourSimplifier line = Check.picture(4, 3, "abb/ab/");
        line.trace(1, 4);
        line.remove(0, 2);
        line.remove(0, 4);
        fraction("3,1 and 2,2 to the sides from 2,1", line, 1, 2);
        line.remove(0, 3);
        fraction("one on its side, two beside it", line, 1, 2);
    }

    private static void deviationAcross() {
        ContourSimplifier s = Check.picture(3, 3, "b/bb/");
        s.trace(1, 4);
        s.remove(0, 1);
        fraction("1,0 to 0,0 1,1", s, 1, 2);
        s.remove(0, 2);
        // 1,0 and 1,1 to the side from 0,0 to 2,1
        fraction("1,0 to 0,0 2,1", s, 1, 5);
        s.remove(0, 3);
        // 1,0 and 2,1 to the side from 0,0 to 2,2: 4 / 8
        fraction("in lowest terms", s, 1, 2);
        ContourSimplifier great = new ContourSimplifier();
        great.reset(16, 12);
        great.fill(0, 0, 16, 12, 1);
        great.trace(1, 4);
        great.remove(0, 2);
        // 192 * 192 / 400
        fraction("the greatest", great, 2304, 25);
    }

    private static void deviationToEnds() {
        // 1,0 3,0 3,3 0,3 0,2 1,2: 3,0 is nearest to the end 1,2 of the side to 0,3
        ContourSimplifier s = Check.picture(3, 3, "abb/abb/3b");
        s.trace(1, 4);
        s.remove(0, 1);
        s.remove(0, 0);
        s.remove(0, 2);
        fraction("to the beginning of the side", s, 8, 1);
        // 2,0 3,0 3,2 1,2 1,1 2,1: 1,2 and 1,1 are nearest to the end 2,1 of the side from 3,2
        ContourSimplifier t = Check.picture(4, 3, "aab/abb/");
        t.trace(1, 4);
        t.remove(0, 4);
        t.remove(0, 3);
        fraction("to the end of the side", t, 2, 1);
        // 3,0 4,0 4,2 0,2 0,1 3,1: 0,2 is 3 and 1 away from the end 3,1 of the side from 4,2
        ContourSimplifier u = Check.picture(4, 3, "3ab/4b/");
        u.trace(1, 4);
        Check.due("27 remove 0,1", u.remove(0, 4), 3);
        Check.due("27 remove 0,2", u.remove(0, 3), 4);
        fraction("by both coordinates", u, 10, 1);
        // 0,0 1,0 1,3 4,3 4,4 0,4: 4,4 is 3 and 1 away from the beginning 1,3 of the side to 0,4
        ContourSimplifier w = Check.picture(4, 4, "b/b/b/4b");
        w.trace(1, 4);
        Check.due("27 remove 4,3", w.remove(0, 3), 3);
        Check.due("27 remove 4,4", w.remove(0, 4), 4);
        fraction("from the beginning", w, 10, 1);
    }
}
