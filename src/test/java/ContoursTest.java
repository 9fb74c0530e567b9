/** Promises 10 to 15: tracing, and what is told of contours and vertices. */
public final class ContoursTest {
    private static final int BAD = ContourSimplifier.BAD_VALUE;
    private static final int NONE = ContourSimplifier.NONE;
    private static final int NO_CONTOUR = ContourSimplifier.NO_SUCH_CONTOUR;
    private static final int NO_VERTEX = ContourSimplifier.NO_SUCH_VERTEX;

    public static void main(String[] args) {
        traceArguments();
        traceThresholds();
        traceCorners();
        traceNumbers();
        traceHoles();
        traceAnew();
        traceGreatest();
        counts();
        nesting();
        ownPixels();
        properties();
        vertices();
        sizes();
        chains();
        Check.end();
    }

    private static void traceArguments() {
        ContourSimplifier s = Check.picture(3, 3, "/abb/");
        int[][] wrong = {{0, 4}, {10, 4}, {-1, 8}, {1, 0}, {1, 3}, {1, 5}, {1, 6}, {1, 7}, {1, 9}, {1, -4}, {0, 0},
            {Integer.MAX_VALUE, 4}, {1, Integer.MIN_VALUE}};
        for (int[] w : wrong) {
            Check.due("10 trace " + w[0] + " " + w[1], s.trace(w[0], w[1]), BAD);
            Check.due("10 no threshold", s.count(8), 0);
        }
        Check.due("10 trace 1 4", s.trace(1, 4), 1);
        Check.due("10 trace 1 8", s.trace(1, 8), 1);
        Check.due("10 wrong", s.trace(2, 6), BAD);
        Check.due("10 the contour stays", s.count(0), 1);
        Check.due("10 the threshold stays", s.count(8), 1);
    }

    private static void traceThresholds() {
        ContourSimplifier s = Check.picture(9, 3, "/bcdefghij/");
        for (int t = 1; t <= 9; t++) {
            Check.due("10 threshold " + t, s.trace(t, 4), 1);
            Check.due("10 area " + t, s.contour(0, 5), 2 * (10 - t));
            Check.due("10 kept threshold " + t, s.count(8), t);
        }
        ContourSimplifier empty = new ContourSimplifier();
        Check.due("10 nothing inside", empty.trace(1, 4), 0);
        Check.due("10 its threshold", empty.count(8), 1);
        empty.fill(0, 0, 8, 8, 1);
        Check.due("10 all inside", empty.trace(1, 4), 1);
        Check.dueText("10 the border of all", Check.polygon(empty, 0), "0,0 8,0 8,8 0,8");
    }

    private static void traceCorners() {
        ContourSimplifier falling = Check.picture(3, 3, "b/ab/");
        Check.due("10 falling 4", falling.trace(1, 4), 2);
        Check.dueText("10 falling 4 first", Check.polygon(falling, 0), "0,0 1,0 1,1 0,1");
        Check.dueText("10 falling 4 second", Check.polygon(falling, 1), "1,1 2,1 2,2 1,2");
        Check.due("10 falling 8", falling.trace(1, 8), 1);
        Check.dueText("10 falling 8", Check.polygon(falling, 0), "0,0 1,0 1,1 2,1 2,2 1,2 1,1 0,1");
        ContourSimplifier rising = Check.picture(3, 3, "ab/b/");
        Check.due("10 rising 4", rising.trace(1, 4), 2);
        Check.dueText("10 rising 4 first", Check.polygon(rising, 0), "1,0 2,0 2,1 1,1");
        Check.dueText("10 rising 4 second", Check.polygon(rising, 1), "0,1 1,1 1,2 0,2");
        Check.due("10 rising 8", rising.trace(1, 8), 1);
        Check.dueText("10 rising 8", Check.polygon(rising, 0), "1,0 2,0 2,1 1,1 1,2 0,2 0,1 1,1");
        // two outside pixels that touch at a corner are one hole with 4, two with 8
        ContourSimplifier holes = Check.picture(4, 4, "4b/babb/bbab/4b");
        Check.due("10 holes 4", holes.trace(1, 4), 2);
        Check.dueText("10 the hole of 4", Check.polygon(holes, 1), "1,2 2,2 2,3 3,3 3,2 2,2 2,1 1,1");
        Check.due("10 its area", holes.contour(1, 5), -4);
        Check.due("10 holes 8", holes.trace(1, 8), 3);
        Check.dueText("10 the upper hole", Check.polygon(holes, 1), "1,2 2,2 2,1 1,1");
        Check.dueText("10 the lower hole", Check.polygon(holes, 2), "2,3 3,3 3,2 2,2");
    }

    private static void traceNumbers() {
        // by y of the first arrow to the right, then by x
        ContourSimplifier s = Check.picture(7, 4, "5ab/bab/4ab/b2ab2ab");
        Check.due("10 seven pixels", s.trace(1, 4), 7);
        int[][] first = {{5, 0}, {0, 1}, {2, 1}, {4, 2}, {0, 3}, {3, 3}, {6, 3}};
        for (int c = 0; c < first.length; c++) {
            Check.due("10 x of contour " + c, s.vertex(c, 0, 0), first[c][0]);
            Check.due("10 y of contour " + c, s.vertex(c, 0, 1), first[c][1]);
        }
    }

    private static void traceHoles() {
        // the floor of the hole has two steps; the upper one, though at the right, is vertex 0
        ContourSimplifier s = Check.picture(5, 5, "5b/b3ab/ba3b/5b/5b");
        Check.due("10 a hole with a step", s.trace(1, 4), 2);
        Check.dueText("10 its vertices", Check.polygon(s, 1), "2,2 4,2 4,1 1,1 1,3 2,3");
        Check.due("10 its area", s.contour(1, 5), -8);
    }

    private static void traceAnew() {
        ContourSimplifier s = Check.picture(4, 4, "/a2b/a2b/");
        s.trace(1, 4);
        s.remove(0, 2);
        s.set(1, 1, 0);
        s.fill(0, 0, 4, 1, 9);
        Check.dueText("10 contours stay", Check.polygon(s, 0), "1,1 3,1 1,3");
        Check.due("10 one contour", s.count(0), 1);
        s.set(1, 1, 1);
        s.fill(0, 0, 4, 1, 0);
        Check.due("10 anew", s.trace(1, 4), 1);
        Check.dueText("10 all are present", Check.polygon(s, 0), "1,1 3,1 3,3 1,3");
        Check.due("10 all are counted", s.count(3), 4);
        Check.due("10 present in the contour", s.contour(0, 4), 4);
        Check.due("10 no steps", s.count(5), 0);
        Check.due("10 no undo", s.undo(), NONE);
        // a vertex at 2,2 was present before, and must not be in the way now
        s.set(1, 1, 0);
        s.trace(1, 4);
        Check.dueText("10 with a notch", Check.polygon(s, 0), "2,1 3,1 3,3 1,3 1,2 2,2");
        s.set(1, 1, 1);
        s.trace(1, 4);
        Check.due("10 without it", s.remove(0, 0), 4);
    }

    private static void traceGreatest() {
        ContourSimplifier s = new ContourSimplifier();
        s.reset(16, 12);
        for (int y = 0; y < 12; y++) {
            for (int x = y % 2; x < 16; x += 2) {
                s.set(x, y, 1);
            }
        }
        Check.due("10 a checkered picture", s.trace(1, 4), 96);
        Check.due("10 its vertices", s.count(4), 384);
        Check.due("10 its outer contours", s.count(1), 96);
        // with 8 it is one contour around, and a hole for each outside pixel within it
        Check.due("10 with 8", s.trace(1, 8), 1 + 10 * 14 / 2);
        Check.due("10 the vertices again", s.count(4), 384);
        Check.due("10 holes", s.count(2), 70);
        Check.due("10 no more than its corners go", s.simplify(1000), 384 - s.count(3));
    }

    private static void counts() {
        // a frame with an island in it, and a block beside it
        ContourSimplifier s = Check.picture(9, 6, "5b/b3aba2b/bababa2b/b3ab/5b");
        Check.type(s, "ab");
        s.trace(1, 4);
        int[] want = {4, 3, 1, 16, 16, 0, 9, 6, 1, 2};
        for (int what = 0; what < want.length; what++) {
            Check.due("11 count " + what, s.count(what), want[what]);
        }
        s.remove(1, 0);
        s.remove(2, 0);
        int[] then = {4, 3, 1, 14, 16, 2, 9, 6, 1, 2};
        for (int what = 0; what < then.length; what++) {
            Check.due("11 count then " + what, s.count(what), then[what]);
        }
        Check.due("11 -1", s.count(-1), BAD);
        Check.due("11 10", s.count(10), BAD);
        Check.due("11 least", s.count(Integer.MIN_VALUE), BAD);
        Check.due("11 greatest", s.count(Integer.MAX_VALUE), BAD);
    }

    private static void nesting() {
        // a ring in a ring, with a pixel in the middle, and a block beside it
        ContourSimplifier s = Check.picture(13, 9, "9ba3b/b7aba3b/ba5babab/bab3abab/babababab/bab3abab/ba5bab/b7ab/9b");
        Check.due("12 contours", s.trace(1, 4), 6);
        int[][] want = {
            {0, NONE, 0, 4, 4, 162, 162, 36, 1},
            {0, NONE, 0, 6, 6, 14, 14, 12, 0},
            {0, 5, 2, 4, 4, 50, 50, 20, 1},
            {0, 4, 4, 4, 4, 2, 2, 4, 0},
            {1, 2, 3, 4, 4, -18, -18, 12, 1},
            {1, 0, 1, 4, 4, -98, -98, 28, 1},
        };
        for (int c = 0; c < want.length; c++) {
            for (int what = 0; what < want[c].length; what++) {
                Check.due("12 contour " + c + " " + what, s.contour(c, what), want[c][what]);
            }
        }
    }

    private static void ownPixels() {
        // the own pixel of each contour lies in its parent, not only near it
        ContourSimplifier s = Check.picture(7, 5, "7b/b5ab/babbbab/b5ab/7b");
        Check.due("12 three contours", s.trace(1, 8), 3);
        Check.due("12 parent of the island", s.contour(1, 1), 2);
        Check.due("12 parent of the hole", s.contour(2, 1), 0);
        Check.due("12 children of the frame", s.contour(0, 8), 1);
        s.simplify(1000);
        Check.due("12 parent after simplifying", s.contour(1, 1), 2);
        Check.due("12 depth after simplifying", s.contour(1, 2), 2);
        Check.due("12 traced area after simplifying", s.contour(0, 5), 70);
        Check.due("12 arrows after simplifying", s.contour(0, 7), 24);
    }

    private static void properties() {
        ContourSimplifier s = Check.picture(4, 4, "/a2b/a2b/");
        s.trace(1, 4);
        s.remove(0, 0);
        Check.due("12 vertices", s.contour(0, 3), 4);
        Check.due("12 present", s.contour(0, 4), 3);
        Check.due("12 traced area", s.contour(0, 5), 8);
        Check.due("12 area", s.contour(0, 6), 4);
        Check.due("12 what -1", s.contour(0, -1), BAD);
        Check.due("12 what 9", s.contour(0, 9), BAD);
        Check.due("12 no contour 1", s.contour(1, 0), NO_CONTOUR);
        Check.due("12 no contour -1", s.contour(-1, 0), NO_CONTOUR);
        Check.due("12 the contour comes first", s.contour(1, 9), NO_CONTOUR);
        Check.due("12 the greatest number", s.contour(Integer.MAX_VALUE, 0), NO_CONTOUR);
        Check.due("12 none at first", new ContourSimplifier().contour(0, 0), NO_CONTOUR);
    }

    private static void vertices() {
        ContourSimplifier s = Check.picture(4, 4, "/ab/a2b/");
        s.trace(1, 4);
        // 1,1 2,1 2,2 3,2 3,3 1,3
        int[][] want = {{1, 1, 1, 2, 1}, {2, 1, 1, 1, 1}, {2, 2, 1, 1, 1}, {3, 2, 1, 1, 1}, {3, 3, 1, 2, 1},
            {1, 3, 1, 4, 0}};
        for (int v = 0; v < want.length; v++) {
            for (int what = 0; what < 5; what++) {
                Check.due("13 vertex " + v + " " + what, s.vertex(0, v, what), want[v][what]);
            }
        }
        s.remove(0, 1);
        Check.due("13 not present", s.vertex(0, 1, 2), 0);
        Check.due("13 x of a removed one", s.vertex(0, 1, 0), 2);
        Check.due("13 its size", s.vertex(0, 1, 3), 1);
        Check.due("13 it can be inserted", s.vertex(0, 1, 4), 1);
        Check.due("13 its neighbour", s.vertex(0, 0, 3), 2);
        Check.due("13 what -1", s.vertex(0, 0, -1), BAD);
        Check.due("13 what 5", s.vertex(0, 0, 5), BAD);
        Check.due("13 vertex 6", s.vertex(0, 6, 0), NO_VERTEX);
        Check.due("13 vertex -1", s.vertex(0, -1, 0), NO_VERTEX);
        Check.due("13 contour 1", s.vertex(1, 0, 0), NO_CONTOUR);
        Check.due("13 contour -1", s.vertex(-1, 0, 0), NO_CONTOUR);
        Check.due("13 the contour comes first", s.vertex(1, 6, 5), NO_CONTOUR);
        Check.due("13 then the vertex", s.vertex(0, 6, 5), NO_VERTEX);
        Check.due("13 the greatest", s.vertex(0, Integer.MAX_VALUE, 0), NO_VERTEX);
    }

    private static void sizes() {
        // equal areas go by number; a hole counts by its absolute value
        ContourSimplifier s = new ContourSimplifier();
        s.reset(9, 5);
        s.set(0, 0, 1);
        s.fill(2, 0, 2, 1, 1);
        s.fill(5, 0, 4, 3, 1);
        s.fill(6, 1, 2, 1, 0);
        s.fill(0, 3, 2, 1, 1);
        Check.due("14 contours", s.trace(1, 4), 5);
        // 0: area 2; 1: 4; 2: 24; 3: hole -4; 4: 4
        int[] order = {2, 1, 3, 4, 0};
        for (int i = 0; i < order.length; i++) {
            Check.due("14 place " + i, s.bySize(i), order[i]);
        }
        s.remove(1, 0);
        // contour 1 has an area of 2 now
        int[] then = {2, 3, 4, 0, 1};
        for (int i = 0; i < then.length; i++) {
            Check.due("14 place then " + i, s.bySize(i), then[i]);
        }
        Check.due("14 no more", s.bySize(5), NONE);
        Check.due("14 far", s.bySize(Integer.MAX_VALUE), NONE);
        Check.due("14 negative", s.bySize(-1), BAD);
        Check.due("14 without contours", new ContourSimplifier().bySize(0), NONE);
        Check.due("14 negative without contours", new ContourSimplifier().bySize(-1), BAD);
    }

    private static void chains() {
        ContourSimplifier s = new ContourSimplifier();
        s.reset(16, 12);
        s.fill(0, 0, 16, 12, 1);
        s.fill(2, 2, 10, 9, 0);
        s.trace(1, 4);
        Check.dueText("15 the frame", Check.chain(s, 0), "R16D12L16U12");
        Check.dueText("15 the hole", Check.chain(s, 1), "R10U9L10D9");
        Check.due("15 length", s.chainCode(0, -1), 12);
        Check.due("15 length of the hole", s.chainCode(1, -1), 10);
        Check.due("15 last", s.chainCode(0, 11), '2');
        Check.due("15 behind the last", s.chainCode(0, 12), NONE);
        Check.due("15 far", s.chainCode(0, Integer.MAX_VALUE), NONE);
        Check.due("15 -2", s.chainCode(0, -2), BAD);
        Check.due("15 least", s.chainCode(0, Integer.MIN_VALUE), BAD);
        Check.due("15 contour 2", s.chainCode(2, 0), NO_CONTOUR);
        Check.due("15 contour -1", s.chainCode(-1, 0), NO_CONTOUR);
        Check.due("15 the contour comes first", s.chainCode(2, -2), NO_CONTOUR);
        s.remove(1, 0);
        Check.dueText("15 as it was traced", Check.chain(s, 1), "R10U9L10D9");
    }
}
