/** Promises 10 to 15: a test for each sentence of the document that names a boundary case. */
public final class ContoursBoundariesTest {
    private static final int NO_CONTOUR = ContourSimplifier.NO_SUCH_CONTOUR;
    private static final int NO_VERTEX = ContourSimplifier.NO_SUCH_VERTEX;
    private static final int BAD = ContourSimplifier.BAD_VALUE;
    private static final int NONE = ContourSimplifier.NONE;
    private static final int MIN = Integer.MIN_VALUE;
    private static final int MAX = Integer.MAX_VALUE;
    /** Numbers that no contour and no vertex has if there are few of them. */
    private static final int[] FAR = {-1, -2, 999, 65536, MIN, MAX};

    public static void main(String[] args) throws IllegalAccessException {
        Check.promises(ContoursBoundariesTest.class, 10, 15);
        Check.end();
    }

    /** Two contours, of each of which a vertex is removed: 0,0 1,0 1,1 2,1 2,2 0,2 and 3,0 4,0 4,1 3,1. */
    private static ContourSimplifier used() {
        ContourSimplifier s = traced(5, 3, "baab/bb/", 4, 2);
        Check.due("remove", s.remove(0, 1), 1);
        Check.due("remove", s.remove(1, 3), 1);
        Check.type(s, "2b/j");
        return s;
    }

    private static ContourSimplifier traced(int width, int height, String text, int connectivity, int contours) {
        ContourSimplifier s = Check.picture(width, height, text);
        Check.due("trace " + connectivity, s.trace(1, connectivity), contours);
        return s;
    }

    /** Inside and outside by turns, as on a board for chess. */
    private static ContourSimplifier checkered(int connectivity, int contours) {
        ContourSimplifier s = new ContourSimplifier();
        s.reset(16, 12);
        for (int y = 0; y < 12; y++) {
            for (int x = y % 2; x < 16; x += 2) {
                s.set(x, y, 1);
            }
        }
        Check.due("trace " + connectivity, s.trace(1, connectivity), contours);
        return s;
    }

    // ---- 10: trace

    private static void dueTraceRefused(int[][] calls) {
        ContourSimplifier s = used();
        for (int[] c : calls) {
            Check.due("trace " + c[0] + " " + c[1], s.trace(c[0], c[1]), BAD);
        }
        Check.dueUnchanged(s, used());
    }

    static void promise10AThresholdBelow1IsRefused() {
        dueTraceRefused(new int[][] {{0, 4}, {0, 8}, {-1, 4}, {-9, 8}, {MIN, 4}});
    }

    static void promise10AThresholdAbove9IsRefused() {
        dueTraceRefused(new int[][] {{10, 4}, {10, 8}, {11, 4}, {257, 8}, {MAX, 4}});
    }

    static void promise10AConnectivityThatIsNeither4Nor8IsRefused() {
        dueTraceRefused(new int[][] {{1, 0}, {1, 1}, {1, 3}, {1, 5}, {1, 6}, {1, 7}, {1, 9}, {1, 12}, {1, 32}, {1, -4},
            {1, -8}, {9, 3}, {1, MIN}, {1, MAX}});
    }

    static void promise10BothAreRefusedTogether() {
        dueTraceRefused(new int[][] {{0, 0}, {10, 5}, {4, 1}, {8, 9}, {MIN, MAX}});
    }

    static void promise10ALevelAtTheThresholdIsInside() {
        for (int t = 1; t <= 9; t++) {
            ContourSimplifier s = new ContourSimplifier();
            s.set(2, 2, t);
            s.set(5, 5, t - 1);
            Check.due("trace " + t, s.trace(t, 4), 1);
            Check.dueText("it is the first pixel", Check.polygon(s, 0), "2,2 3,2 3,3 2,3");
        }
    }

    static void promise10NothingIsInside() {
        ContourSimplifier s = used();
        Check.due("trace", s.trace(2, 4), 0);
        Check.due("contours", s.count(0), 0);
        Check.due("vertices", s.count(4), 0);
        Check.due("present ones", s.count(3), 0);
        Check.due("the threshold", s.count(8), 2);
        Check.due("the first contour is gone", s.contour(0, 0), NO_CONTOUR);
        Check.due("the first vertex is gone", s.vertex(0, 0, 0), NO_CONTOUR);
        Check.due("nothing is covered", s.isCovered(1, 1), 0);
        Check.due("no steps", s.undo(), NONE);
    }

    static void promise10AllIsInside() {
        ContourSimplifier least = traced(3, 3, "3b/3b/3b", 4, 1);
        Check.dueText("the least", Check.polygon(least, 0), "0,0 3,0 3,3 0,3");
        ContourSimplifier s = new ContourSimplifier();
        s.reset(16, 12);
        s.fill(0, 0, 16, 12, 1);
        Check.due("trace", s.trace(1, 8), 1);
        Check.dueText("the greatest", Check.polygon(s, 0), "0,0 16,0 16,12 0,12");
    }

    static void promise10OnePixelInEachCornerOfThePicture() {
        int[][] corners = {{0, 0}, {15, 0}, {0, 11}, {15, 11}};
        String[] want = {"0,0 1,0 1,1 0,1", "15,0 16,0 16,1 15,1", "0,11 1,11 1,12 0,12", "15,11 16,11 16,12 15,12"};
        for (int i = 0; i < 4; i++) {
            ContourSimplifier s = new ContourSimplifier();
            s.reset(16, 12);
            s.set(corners[i][0], corners[i][1], 1);
            Check.due("trace", s.trace(1, 4), 1);
            Check.dueText("corner " + i, Check.polygon(s, 0), want[i]);
            Check.due("it is outer", s.contour(0, 0), 0);
        }
    }

    static void promise10RowsDoNotGoOnInTheNextRow() {
        ContourSimplifier s = new ContourSimplifier();
        s.reset(16, 12);
        s.set(15, 4, 1);
        s.set(0, 5, 1);
        Check.due("trace", s.trace(1, 8), 2);
        Check.dueText("the right one", Check.polygon(s, 0), "15,4 16,4 16,5 15,5");
        Check.dueText("the left one", Check.polygon(s, 1), "0,5 1,5 1,6 0,6");
    }

    static void promise10WhereTwoArrowsBegin4TurnsRight() {
        ContourSimplifier falling = traced(3, 3, "b/ab/", 4, 2);
        Check.dueText("falling, first", Check.polygon(falling, 0), "0,0 1,0 1,1 0,1");
        Check.dueText("falling, second", Check.polygon(falling, 1), "1,1 2,1 2,2 1,2");
        ContourSimplifier rising = traced(3, 3, "ab/b/", 4, 2);
        Check.dueText("rising, first", Check.polygon(rising, 0), "1,0 2,0 2,1 1,1");
        Check.dueText("rising, second", Check.polygon(rising, 1), "0,1 1,1 1,2 0,2");
    }

    static void promise10WhereTwoArrowsBegin8TurnsLeft() {
        ContourSimplifier falling = traced(3, 3, "b/ab/", 8, 1);
        Check.dueText("falling", Check.polygon(falling, 0), "0,0 1,0 1,1 2,1 2,2 1,2 1,1 0,1");
        ContourSimplifier rising = traced(3, 3, "ab/b/", 8, 1);
        Check.dueText("rising", Check.polygon(rising, 0), "1,0 2,0 2,1 1,1 1,2 0,2 0,1 1,1");
    }

    static void promise10WhereTwoArrowsBeginInAHole() {
        ContourSimplifier one = traced(4, 4, "4b/babb/bbab/4b", 4, 2);
        Check.dueText("one hole with 4", Check.polygon(one, 1), "1,2 2,2 2,3 3,3 3,2 2,2 2,1 1,1");
        ContourSimplifier two = traced(4, 4, "4b/babb/bbab/4b", 8, 3);
        Check.dueText("the first hole with 8", Check.polygon(two, 1), "1,2 2,2 2,1 1,1");
        Check.dueText("the second hole with 8", Check.polygon(two, 2), "2,3 3,3 3,2 2,2");
    }

    static void promise10TwoVerticesCanBeAtTheSamePlace() {
        ContourSimplifier s = traced(3, 3, "b/ab/", 8, 1);
        for (int v : new int[] {2, 6}) {
            Check.due("x of " + v, s.vertex(0, v, 0), 1);
            Check.due("y of " + v, s.vertex(0, v, 1), 1);
        }
        Check.due("both are counted", s.count(4), 8);
    }

    static void promise10OfSeveralUppermostArrowsTheLeftmostIsFirst() {
        ContourSimplifier outer = traced(3, 3, "bab/3b/", 4, 1);
        Check.dueText("an outer contour", Check.polygon(outer, 0), "0,0 1,0 1,1 2,1 2,0 3,0 3,2 0,2");
        ContourSimplifier hole = traced(5, 5, "5b/b3ab/bbabb/5b/5b", 4, 2);
        Check.dueText("a hole", Check.polygon(hole, 1), "1,2 2,2 2,3 3,3 3,2 4,2 4,1 1,1");
    }

    static void promise10TheUppermostArrowIsFirstThoughItIsNotTheLeftmost() {
        ContourSimplifier outer = traced(3, 3, "aab/3b/", 4, 1);
        Check.dueText("an outer contour", Check.polygon(outer, 0), "2,0 3,0 3,2 0,2 0,1 2,1");
        ContourSimplifier hole = traced(5, 5, "5b/b3ab/ba3b/5b/5b", 4, 2);
        Check.dueText("a hole", Check.polygon(hole, 1), "2,2 4,2 4,1 1,1 1,3 2,3");
    }

    static void promise10ContoursAreNumberedByYAndThenByX() {
        ContourSimplifier s = traced(7, 3, "6ab/babab/5ab", 4, 5);
        int[][] first = {{6, 0}, {0, 1}, {2, 1}, {4, 1}, {5, 2}};
        for (int c = 0; c < first.length; c++) {
            Check.due("x of " + c, s.vertex(c, 0, 0), first[c][0]);
            Check.due("y of " + c, s.vertex(c, 0, 1), first[c][1]);
        }
    }

    static void promise10AHoleIsNumberedByItsArrowToTheRight() {
        // the upper side of the island comes before the floor of the hole around it
        ContourSimplifier s = traced(5, 5, "5b/b3ab/babab/b3ab/5b", 4, 3);
        Check.due("the frame", s.contour(0, 5), 50);
        Check.due("the island", s.contour(1, 5), 2);
        Check.due("the hole", s.contour(2, 5), -18);
        Check.due("x of the hole", s.vertex(2, 0, 0), 1);
        Check.due("y of the hole", s.vertex(2, 0, 1), 4);
    }

    static void promise10AllVerticesArePresentThen() {
        ContourSimplifier s = used();
        Check.due("trace", s.trace(1, 4), 2);
        Check.due("present", s.count(3), 10);
        Check.due("present in the first", s.contour(0, 4), 6);
        Check.due("present in the second", s.contour(1, 4), 4);
        Check.due("a vertex that was removed", s.vertex(0, 1, 2), 1);
    }

    static void promise10TheListOfStepsIsEmptyThen() {
        ContourSimplifier s = used();
        Check.due("trace", s.trace(1, 4), 2);
        Check.due("steps", s.count(5), 0);
        Check.due("undo", s.undo(), NONE);
    }

    static void promise10NothingOfAnEarlierTraceIsLeft() {
        // each text is read and traced behind a greater one, and by a new object
        String[][] texts = {{"abb/bab/baa", "aaa/aab/bab"}, {"bbab//4b", "aab//abb"}, {"/aab/b", "//bb"},
            {"aab/b/bb/3b/3b", "abb//ab"}, {"abb/3b/ab/abb", "aab/abb/bb"}, {"bab/aba/bab", "/ab/"}, {"/ab/", "3b/3b/3b"}};
        for (String[] pair : texts) {
            for (int connectivity = 4; connectivity <= 8; connectivity += 4) {
                ContourSimplifier s = new ContourSimplifier();
                s.reset(4, 5);
                Check.type(s, pair[0]);
                s.readPicture();
                s.trace(1, connectivity);
                s.bySize(0);
                s.simplify(1);
                s.clearText();
                Check.type(s, pair[1]);
                s.readPicture();
                s.trace(1, connectivity);
                s.clearText();
                ContourSimplifier fresh = Check.picture(4, 5, pair[1]);
                fresh.trace(1, connectivity);
                Check.dueText(pair[1], Check.state(s), Check.state(fresh));
                Check.due("simplify " + pair[1], s.simplify(4), fresh.simplify(4));
                Check.dueText(pair[1] + " simplified", Check.state(s), Check.state(fresh));
                Check.due("refine " + pair[1], s.refine(), fresh.refine());
                Check.dueText(pair[1] + " refined", Check.state(s), Check.state(fresh));
            }
        }
    }

    static void promise10TheContoursStayWhateverHappensToThePixels() {
        ContourSimplifier s = used();
        String first = Check.polygon(s, 0);
        String second = Check.polygon(s, 1);
        s.set(0, 0, 0);
        s.fill(0, 0, 5, 1, 9);
        s.flood(0, 0, 3);
        Check.dueText("the first", Check.polygon(s, 0), first);
        Check.dueText("the second", Check.polygon(s, 1), second);
        Check.due("the traced area", s.contour(0, 5), 6);
        Check.due("steps", s.count(5), 2);
    }

    static void promise10TheGreatestNumberOfContoursAndVertices() {
        ContourSimplifier s = checkered(4, 96);
        Check.due("vertices", s.count(4), 384);
        Check.due("x of the last contour", s.vertex(95, 0, 0), 15);
        Check.due("y of the last contour", s.vertex(95, 0, 1), 11);
        Check.due("no more", s.contour(96, 0), NO_CONTOUR);
    }

    static void promise10TheGreatestNumberOfHoles() {
        ContourSimplifier s = checkered(8, 71);
        Check.due("vertices", s.count(4), 384);
        Check.due("holes", s.count(2), 70);
        Check.due("arrows of the outer contour", s.contour(0, 7), 384 - 4 * 70);
    }

    // ---- 11: count

    static void promise11AWhatBelow0IsRefused() {
        ContourSimplifier s = used();
        for (int what : new int[] {-1, -2, -10, MIN}) {
            Check.due("count " + what, s.count(what), BAD);
        }
        Check.dueUnchanged(s, used());
    }

    static void promise11AWhatAbove9IsRefused() {
        ContourSimplifier s = used();
        for (int what : new int[] {10, 11, 256, 265, MAX}) {
            Check.due("count " + what, s.count(what), BAD);
        }
        Check.dueUnchanged(s, used());
    }

    static void promise11WithoutContours() {
        int[] want = {0, 0, 0, 0, 0, 0, 8, 8, 0, 0};
        ContourSimplifier s = new ContourSimplifier();
        for (int what = 0; what < want.length; what++) {
            Check.due("count " + what, s.count(what), want[what]);
        }
    }

    static void promise11WithContours() {
        int[] want = {2, 2, 0, 8, 10, 2, 5, 3, 1, 4};
        ContourSimplifier s = used();
        for (int what = 0; what < want.length; what++) {
            Check.due("count " + what, s.count(what), want[what]);
        }
    }

    static void promise11OuterContoursAndHolesAreAllContours() {
        ContourSimplifier s = traced(5, 5, "5b/b3ab/babab/b3ab/5b", 4, 3);
        Check.due("outer", s.count(1), 2);
        Check.due("holes", s.count(2), 1);
    }

    static void promise11WidthAndHeightAreNotSwapped() {
        ContourSimplifier s = new ContourSimplifier();
        s.reset(16, 3);
        Check.due("width", s.count(6), 16);
        Check.due("height", s.count(7), 3);
    }

    static void promise11TheThresholdIs0IfThereWasNoTrace() {
        ContourSimplifier s = new ContourSimplifier();
        Check.due("at first", s.count(8), 0);
        s.trace(0, 4);
        s.trace(10, 4);
        s.trace(5, 5);
        Check.due("after refused ones", s.count(8), 0);
    }

    static void promise11TheThresholdIs0IfTheContoursWereRemoved() {
        ContourSimplifier reset = used();
        reset.reset(5, 3);
        Check.due("after reset", reset.count(8), 0);
        ContourSimplifier read = used();
        Check.due("readPicture", read.readPicture() < 0 ? 1 : 0, 0);
        Check.due("after readPicture", read.count(8), 0);
    }

    static void promise11TheThresholdStaysAfterARefusedCall() {
        ContourSimplifier s = used();
        s.trace(3, 3);
        s.reset(2, 2);
        s.type('k');
        Check.due("fault", s.readPicture(), -104);
        Check.due("threshold", s.count(8), 1);
    }

    static void promise11TheThresholdIsThereThoughNoContourIs() {
        ContourSimplifier s = new ContourSimplifier();
        Check.due("trace", s.trace(9, 8), 0);
        Check.due("threshold", s.count(8), 9);
    }

    static void promise11AtMost600StepsCanBeTakenBack() {
        // six squares lose and get back a vertex each: 12 steps in 2 calls
        ContourSimplifier s = traced(12, 3, "babababababa/", 4, 6);
        for (int i = 0; i < 49; i++) {
            s.simplify(1);
            s.refine();
        }
        Check.due("588", s.count(5), 588);
        s.simplify(1);
        Check.due("594", s.count(5), 594);
        s.refine();
        Check.due("600", s.count(5), 600);
        s.remove(0, 0);
        Check.due("601 are too many", s.count(5), 600);
        s.reduce(0);
        Check.due("606 are too many", s.count(5), 600);
    }

    static void promise11TheTextHas0To200Characters() {
        ContourSimplifier s = new ContourSimplifier();
        for (int i = 0; i <= 200; i++) {
            Check.due("length", s.count(9), i);
            s.type('a');
        }
        Check.due("length at most", s.count(9), 200);
    }

    // ---- 12: contour

    static void promise12AContourThatIsNotThereIsRefused() {
        ContourSimplifier s = used();
        Check.due("the last one", s.contour(1, 3), 4);
        Check.due("behind the last", s.contour(2, 3), NO_CONTOUR);
        for (int c : FAR) {
            Check.due("contour " + c, s.contour(c, 0), NO_CONTOUR);
        }
        Check.dueUnchanged(s, used());
    }

    static void promise12WithoutContoursEachIsRefused() {
        ContourSimplifier s = new ContourSimplifier();
        Check.due("contour 0", s.contour(0, 0), NO_CONTOUR);
        Check.due("contour -1", s.contour(-1, 0), NO_CONTOUR);
    }

    static void promise12AContourOfAnEarlierTraceIsRefused() {
        ContourSimplifier s = used();
        s.set(3, 0, 0);
        Check.due("trace", s.trace(1, 4), 1);
        Check.due("contour 1", s.contour(1, 0), NO_CONTOUR);
    }

    static void promise12AWhatBelow0IsRefused() {
        ContourSimplifier s = used();
        for (int what : new int[] {-1, -2, MIN}) {
            Check.due("contour 0 " + what, s.contour(0, what), BAD);
        }
        Check.dueUnchanged(s, used());
    }

    static void promise12AWhatAbove8IsRefused() {
        ContourSimplifier s = used();
        for (int what : new int[] {9, 10, 256, MAX}) {
            Check.due("contour 1 " + what, s.contour(1, what), BAD);
        }
        Check.dueUnchanged(s, used());
    }

    static void promise12TheContourIsNamedFirst() {
        ContourSimplifier s = used();
        Check.due("contour 2 9", s.contour(2, 9), NO_CONTOUR);
        Check.due("contour -1 -1", s.contour(-1, -1), NO_CONTOUR);
    }

    static void promise12AContourWithoutAParent() {
        ContourSimplifier s = used();
        for (int c = 0; c < 2; c++) {
            Check.due("parent of " + c, s.contour(c, 1), NONE);
            Check.due("depth of " + c, s.contour(c, 2), 0);
            Check.due("children of " + c, s.contour(c, 8), 0);
        }
    }

    static void promise12TheParentIsTheLeastThatContainsTheOwnPixel() {
        ContourSimplifier s = traced(5, 5, "5b/b3ab/babab/b3ab/5b", 4, 3);
        Check.due("parent of the frame", s.contour(0, 1), NONE);
        Check.due("parent of the hole", s.contour(2, 1), 0);
        Check.due("parent of the island", s.contour(1, 1), 2);
        Check.due("children of the frame", s.contour(0, 8), 1);
        Check.due("children of the hole", s.contour(2, 8), 1);
        Check.due("children of the island", s.contour(1, 8), 0);
    }

    static void promise12AnIslandThatTouchesItsHoleAtACorner() {
        ContourSimplifier apart = traced(5, 5, "5b/bbaab/babab/b3ab/5b", 4, 3);
        Check.due("area of the island", apart.contour(1, 5), 2);
        Check.due("area of the hole", apart.contour(2, 5), -16);
        Check.due("parent of the island", apart.contour(1, 1), 2);
        Check.due("depth of the island", apart.contour(1, 2), 2);
        ContourSimplifier joined = traced(5, 5, "5b/bbaab/babab/b3ab/5b", 8, 2);
        Check.due("area of the hole with 8", joined.contour(1, 5), -14);
        Check.due("x of its first vertex", joined.vertex(1, 0, 0), 2);
        Check.due("y of its first vertex", joined.vertex(1, 0, 1), 2);
        Check.due("parent of the hole with 8", joined.contour(1, 1), 0);
    }

    static void promise12TheOwnPixelOfAHoleIsAboveItsFirstArrow() {
        // the island beside the own pixel, at its right or left, touches the floor of the hole at a corner only
        ContourSimplifier right = traced(5, 6, "5b/b3ab/babab/bbaab/b3ab/5b", 4, 3);
        Check.due("x of the hole", right.vertex(2, 0, 0), 1);
        Check.due("y of the hole", right.vertex(2, 0, 1), 3);
        Check.due("its parent", right.contour(2, 1), 0);
        Check.due("parent of the island at the right", right.contour(1, 1), 2);
        ContourSimplifier left = traced(5, 6, "5b/b3ab/babab/baabb/b3ab/5b", 4, 3);
        Check.due("x of the hole", left.vertex(2, 0, 0), 3);
        Check.due("y of the hole", left.vertex(2, 0, 1), 3);
        Check.due("its parent", left.contour(2, 1), 0);
        Check.due("parent of the island at the left", left.contour(1, 1), 2);
    }

    static void promise12TheOwnPixelOfAnOuterContourIsBelowItsFirstArrow() {
        // the pixel below the own pixel is a hole of the contour
        ContourSimplifier s = traced(3, 3, "ab/bab/ab", 8, 2);
        Check.due("parent of the outer contour", s.contour(0, 1), NONE);
        Check.due("parent of the hole", s.contour(1, 1), 0);
    }

    static void promise12TheGreatestDepth() {
        ContourSimplifier s = new ContourSimplifier();
        s.reset(16, 12);
        for (int i = 0; i < 6; i++) {
            s.fill(i, i, 16 - 2 * i, 12 - 2 * i, 1 - i % 2);
        }
        Check.due("trace", s.trace(1, 4), 6);
        // the frames begin from the outermost inward, the holes end from the innermost outward
        int[] depths = {0, 2, 4, 5, 3, 1};
        int[] parents = {NONE, 5, 4, 2, 1, 0};
        for (int c = 0; c < 6; c++) {
            Check.due("depth of " + c, s.contour(c, 2), depths[c]);
            Check.due("parent of " + c, s.contour(c, 1), parents[c]);
        }
    }

    static void promise12TheGreatestNumberOfChildren() {
        ContourSimplifier s = checkered(8, 71);
        Check.due("children of the outer contour", s.contour(0, 8), 70);
        Check.due("children of the last hole", s.contour(70, 8), 0);
        Check.due("depth of the last hole", s.contour(70, 2), 1);
    }

    static void promise12WhatWasTracedStaysWhenVerticesGo() {
        ContourSimplifier s = traced(5, 5, "5b/b3ab/babab/b3ab/5b", 4, 3);
        Check.due("simplify", s.simplify(1000) > 0 ? 1 : 0, 1);
        int[][] want = {{0, NONE, 0, 4, 50, 20, 1}, {0, 2, 2, 4, 2, 4, 0}, {1, 0, 1, 4, -18, 12, 1}};
        int[] whats = {0, 1, 2, 3, 5, 7, 8};
        for (int c = 0; c < 3; c++) {
            for (int i = 0; i < whats.length; i++) {
                Check.due("contour " + c + " " + whats[i], s.contour(c, whats[i]), want[c][i]);
            }
        }
    }

    static void promise12TheLeastAndTheGreatestPolygon() {
        ContourSimplifier least = traced(3, 3, "b", 4, 1);
        least.remove(0, 0);
        Check.due("the least", least.contour(0, 6), 1);
        Check.due("its vertices", least.contour(0, 4), 3);
        ContourSimplifier greatest = new ContourSimplifier();
        greatest.reset(16, 12);
        greatest.fill(0, 0, 16, 12, 1);
        greatest.trace(1, 4);
        Check.due("the greatest", greatest.contour(0, 6), 384);
        Check.due("its arrows", greatest.contour(0, 7), 56);
    }

    // ---- 13: vertex

    static void promise13AContourThatIsNotThereIsRefused() {
        ContourSimplifier s = used();
        Check.due("behind the last", s.vertex(2, 0, 0), NO_CONTOUR);
        for (int c : FAR) {
            Check.due("contour " + c, s.vertex(c, 0, 0), NO_CONTOUR);
        }
        Check.due("without contours", new ContourSimplifier().vertex(0, 0, 0), NO_CONTOUR);
        Check.dueUnchanged(s, used());
    }

    static void promise13AVertexThatIsNotThereIsRefused() {
        ContourSimplifier s = used();
        Check.due("the last of the first contour", s.vertex(0, 5, 1), 2);
        Check.due("behind it", s.vertex(0, 6, 1), NO_VERTEX);
        Check.due("the last of the second contour", s.vertex(1, 3, 1), 1);
        Check.due("behind it too", s.vertex(1, 4, 1), NO_VERTEX);
        for (int v : FAR) {
            Check.due("vertex " + v, s.vertex(0, v, 0), NO_VERTEX);
            Check.due("vertex " + v + " of 1", s.vertex(1, v, 0), NO_VERTEX);
        }
        Check.dueUnchanged(s, used());
    }

    static void promise13AWhatBelow0IsRefused() {
        ContourSimplifier s = used();
        for (int what : new int[] {-1, -2, MIN}) {
            Check.due("vertex 0 0 " + what, s.vertex(0, 0, what), BAD);
        }
        Check.dueUnchanged(s, used());
    }

    static void promise13AWhatAbove4IsRefused() {
        ContourSimplifier s = used();
        for (int what : new int[] {5, 6, 256, MAX}) {
            Check.due("vertex 0 1 " + what, s.vertex(0, 1, what), BAD);
        }
        Check.dueUnchanged(s, used());
    }

    static void promise13TheContourIsNamedFirstAndThenTheVertex() {
        ContourSimplifier s = used();
        Check.due("all are wrong", s.vertex(2, 6, 5), NO_CONTOUR);
        Check.due("contour and what are wrong", s.vertex(-1, 0, -1), NO_CONTOUR);
        Check.due("contour and vertex are wrong", s.vertex(2, -1, 0), NO_CONTOUR);
        Check.due("vertex and what are wrong", s.vertex(0, 6, 5), NO_VERTEX);
        Check.due("vertex and what are wrong, below", s.vertex(0, -1, -1), NO_VERTEX);
    }

    static void promise13NeighboursGoAroundTheContour() {
        ContourSimplifier s = traced(4, 3, "4b/bb/", 4, 1);
        // 0,0 4,0 4,1 2,1 2,2 0,2
        Check.due("size of the first", s.vertex(0, 0, 3), 8);
        Check.due("size of the last", s.vertex(0, 5, 3), 4);
        Check.due("remove 2,1", s.remove(0, 3), 2);
        Check.due("remove 4,0", s.remove(0, 1), 4);
        // 0,0 4,1 2,2 0,2
        Check.due("the first has 0,2 before it and 4,1 behind it", s.vertex(0, 0, 3), 8);
        Check.due("the last has 2,2 before it", s.vertex(0, 5, 3), 4);
        Check.due("4,0, between 0,0 and 4,1", s.vertex(0, 1, 3), 4);
    }

    static void promise13NeighboursOfTheFirstAndTheLastIfTheyAreRemoved() {
        ContourSimplifier first = traced(5, 3, "/a3b/a3b", 4, 1);
        // 1,1 4,1 4,3 1,3
        Check.due("remove the first", first.remove(0, 0), 6);
        Check.due("its size", first.vertex(0, 0, 3), 6);
        Check.due("the last has 4,1 behind it", first.vertex(0, 3, 3), 6);
        Check.due("the second has 1,3 before it", first.vertex(0, 1, 3), 6);
        ContourSimplifier last = traced(5, 3, "/a3b/a3b", 4, 1);
        Check.due("remove the last", last.remove(0, 3), 6);
        Check.due("its size", last.vertex(0, 3, 3), 6);
        Check.due("the first has 4,3 before it", last.vertex(0, 0, 3), 6);
        Check.due("the third has 1,1 behind it", last.vertex(0, 2, 3), 6);
        // 0,0 1,0 1,1 2,1 2,2 0,2: here the sizes tell which neighbours they are
        ContourSimplifier angle = traced(3, 3, "b/bb/", 4, 1);
        Check.due("remove 0,0", angle.remove(0, 0), 2);
        Check.due("1,0 has 0,2 before it", angle.vertex(0, 1, 3), 1);
        Check.due("remove 1,0", angle.remove(0, 1), 1);
        Check.due("0,0 has 1,1 behind it", angle.vertex(0, 0, 3), 2);
        Check.due("0,2 has 1,1 behind it", angle.vertex(0, 5, 3), 2);
    }

    static void promise13WithFourPresentOneCanBeRemovedWithThreeNone() {
        ContourSimplifier s = traced(3, 3, "b", 4, 1);
        for (int v = 0; v < 4; v++) {
            Check.due("of four: " + v, s.vertex(0, v, 4), 1);
        }
        s.remove(0, 2);
        for (int v = 0; v < 4; v++) {
            Check.due("of three, or to be inserted: " + v, s.vertex(0, v, 4), v == 2 ? 1 : 0);
        }
    }

    static void promise13ARemovedVertexKeepsItsPlace() {
        ContourSimplifier s = used();
        Check.due("present", s.vertex(0, 1, 2), 0);
        Check.due("x", s.vertex(0, 1, 0), 1);
        Check.due("y", s.vertex(0, 1, 1), 0);
        s.undo();
        s.undo();
        Check.due("present again", s.vertex(0, 1, 2), 1);
    }

    static void promise13TheGreatestSizeAndPlace() {
        ContourSimplifier s = new ContourSimplifier();
        s.reset(16, 12);
        s.fill(0, 0, 16, 12, 1);
        s.trace(1, 4);
        Check.due("x", s.vertex(0, 2, 0), 16);
        Check.due("y", s.vertex(0, 2, 1), 12);
        Check.due("size", s.vertex(0, 2, 3), 192);
    }

    static void promise13ASizeOf0() {
        ContourSimplifier s = traced(3, 3, "b/bb/", 4, 1);
        // 0,0 1,1 2,2 0,2: 1,1 is on the line
        Check.due("remove 1,0", s.remove(0, 1), 1);
        Check.due("remove 2,1", s.remove(0, 3), 1);
        Check.due("size", s.vertex(0, 2, 3), 0);
        Check.due("it can be removed", s.vertex(0, 2, 4), 1);
    }

    // ---- 14: bySize

    static void promise14ANegativePlaceIsRefused() {
        ContourSimplifier s = used();
        for (int place : new int[] {-1, -2, MIN}) {
            Check.due("bySize " + place, s.bySize(place), BAD);
        }
        Check.due("without contours", new ContourSimplifier().bySize(-1), BAD);
        Check.dueUnchanged(s, used());
    }

    static void promise14BehindTheLastContourThereIsNone() {
        ContourSimplifier s = used();
        Check.due("the last", s.bySize(1), 1);
        for (int place : new int[] {2, 3, 110, 111, 1000, MAX}) {
            Check.due("bySize " + place, s.bySize(place), NONE);
        }
        Check.dueUnchanged(s, used());
    }

    static void promise14WithoutContoursThereIsNone() {
        ContourSimplifier s = new ContourSimplifier();
        Check.due("bySize 0", s.bySize(0), NONE);
        s.trace(1, 4);
        Check.due("bySize 0 after trace", s.bySize(0), NONE);
    }

    static void promise14OfEqualContoursTheLowestNumberIsFirst() {
        ContourSimplifier s = traced(5, 3, "babab/", 4, 3);
        for (int place = 0; place < 3; place++) {
            Check.due("bySize " + place, s.bySize(place), place);
        }
        s.remove(0, 0);
        int[] then = {1, 2, 0};
        for (int place = 0; place < 3; place++) {
            Check.due("bySize then " + place, s.bySize(place), then[place]);
        }
    }

    static void promise14AHoleCountsByItsAbsoluteValue() {
        // a frame of 18, its hole of -2, and pixels beside it of 2 each
        ContourSimplifier s = traced(7, 3, "3bab/bab3ab/3bab", 4, 5);
        int[] areas = {18, 2, 2, -2, 2};
        for (int i = 0; i < 5; i++) {
            Check.due("area " + i, s.contour(i, 5), areas[i]);
            Check.due("bySize " + i, s.bySize(i), i);
        }
        s.remove(1, 0);
        int[] then = {0, 2, 3, 4, 1};
        for (int i = 0; i < 5; i++) {
            Check.due("bySize then " + i, s.bySize(i), then[i]);
        }
    }

    static void promise14TheLastOf96Contours() {
        ContourSimplifier s = checkered(4, 96);
        Check.due("bySize 95", s.bySize(95), 95);
        Check.due("bySize 96", s.bySize(96), NONE);
    }

    // ---- 15: chainCode

    static void promise15AContourThatIsNotThereIsRefused() {
        ContourSimplifier s = used();
        Check.due("behind the last", s.chainCode(2, 0), NO_CONTOUR);
        Check.due("its length", s.chainCode(2, -1), NO_CONTOUR);
        for (int c : FAR) {
            Check.due("contour " + c, s.chainCode(c, 0), NO_CONTOUR);
        }
        Check.due("without contours", new ContourSimplifier().chainCode(0, -1), NO_CONTOUR);
        Check.dueUnchanged(s, used());
    }

    static void promise15APlaceBelowMinus1IsRefused() {
        ContourSimplifier s = used();
        for (int i : new int[] {-2, -3, MIN}) {
            Check.due("chainCode 0 " + i, s.chainCode(0, i), BAD);
        }
        Check.dueUnchanged(s, used());
    }

    static void promise15TheContourIsNamedFirst() {
        ContourSimplifier s = used();
        Check.due("below", s.chainCode(2, -2), NO_CONTOUR);
        Check.due("behind", s.chainCode(-1, 999), NO_CONTOUR);
    }

    static void promise15ThePlaceMinus1IsForTheLength() {
        ContourSimplifier s = used();
        Check.due("of the first", s.chainCode(0, -1), 12);
        Check.due("of the second", s.chainCode(1, -1), 8);
    }

    static void promise15TheLastPlaceAndNoneBehindIt() {
        ContourSimplifier s = used();
        Check.due("the last", s.chainCode(1, 7), '1');
        for (int i : new int[] {8, 9, 12, 1000, MAX}) {
            Check.due("chainCode 1 " + i, s.chainCode(1, i), NONE);
        }
        Check.dueUnchanged(s, used());
    }

    static void promise15AWayOf9And10And16Arrows() {
        ContourSimplifier s = new ContourSimplifier();
        s.reset(16, 12);
        s.fill(0, 0, 9, 1, 1);
        s.fill(0, 2, 10, 10, 1);
        Check.due("trace", s.trace(1, 4), 2);
        Check.dueText("9", Check.chain(s, 0), "R9D1L9U1");
        Check.dueText("10", Check.chain(s, 1), "R10D10L10U10");
        s.fill(0, 0, 16, 12, 1);
        s.trace(1, 4);
        Check.dueText("16", Check.chain(s, 0), "R16D12L16U12");
        Check.due("length", s.chainCode(0, -1), 12);
    }

    static void promise15TheLastWayLeadsBackToVertex0() {
        ContourSimplifier outer = traced(4, 3, "aab/a3b/", 4, 1);
        Check.dueText("of an outer contour", Check.chain(outer, 0), "R1D1R1D1L3U1R1U1");
        ContourSimplifier hole = traced(5, 4, "5b/b3ab/5b/5b", 4, 2);
        Check.dueText("of a hole", Check.chain(hole, 1), "R3U1L3D1");
    }

    static void promise15ItIsAsItWasTraced() {
        ContourSimplifier s = used();
        Check.dueText("though a vertex is removed", Check.chain(s, 0), "R1D1R1D1L2U2");
        s.fill(0, 0, 5, 3, 0);
        Check.dueText("though the pixels are changed", Check.chain(s, 1), "R1D1L1U1");
    }

    static void promise15TheLongestChain() {
        ContourSimplifier s = checkered(8, 71);
        Check.due("length", s.chainCode(0, -1), 2 * s.contour(0, 3));
        Check.due("the last", s.chainCode(0, 2 * s.contour(0, 3) - 1), '1');
        Check.due("behind it", s.chainCode(0, 2 * s.contour(0, 3)), NONE);
    }
}
