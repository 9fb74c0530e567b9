/** Promises 16 to 23: removing vertices and putting them back. */
public final class SimplifyingTest {
    private static final int BAD = ContourSimplifier.BAD_VALUE;
    private static final int NONE = ContourSimplifier.NONE;
    private static final int NOT = ContourSimplifier.NOT_POSSIBLE;
    private static final int NO_CONTOUR = ContourSimplifier.NO_SUCH_CONTOUR;
    private static final int NO_VERTEX = ContourSimplifier.NO_SUCH_VERTEX;

    public static void main(String[] args) {
        next();
        nextOfSeveral();
        removeArguments();
        removeKeepsThree();
        removeOnlyFree();
        removeNoSideTwice();
        insertArguments();
        insertNotThroughSides();
        insertNotAlongSides();
        insertOnlyFree();
        insertOnLine();
        simplify();
        simplifySizeZero();
        reduce();
        limitFor();
        limitForRisingAndFalling();
        undo();
        undoRemembers();
        refine();
        refineOnce();
        Check.end();
    }

    /** 0,0 1,0 1,1 2,1 2,2 0,2 with the sizes 2 1 1 1 2 4. */
    private static ContourSimplifier angle() {
        ContourSimplifier s = Check.picture(3, 3, "b/bb/");
        Check.due("trace", s.trace(1, 4), 1);
        return s;
    }

    private static void next() {
        ContourSimplifier s = angle();
        Check.due("16 at first", s.next(), 1);
        Check.due("16 it changes nothing", s.next(), 1);
        Check.due("16 no step", s.count(5), 0);
        s.remove(0, 1);
        Check.due("16 second", s.next(), 2);
        s.remove(0, 2);
        // 0,0 2,1 2,2 0,2 with the sizes 4 2 2 4
        Check.due("16 third", s.next(), 3);
        s.remove(0, 3);
        Check.due("16 three are left", s.next(), NONE);
        Check.due("16 without contours", new ContourSimplifier().next(), NONE);
    }

    private static void nextOfSeveral() {
        // contours of a width of 2, 1 and 1: the least size counts first, then the lowest contour
        ContourSimplifier s = Check.picture(8, 3, "bbabab/");
        s.trace(1, 4);
        Check.due("16 the least size", s.next(), 1000);
        s.remove(1, 0);
        Check.due("16 the next contour", s.next(), 2000);
        s.remove(2, 3);
        Check.due("16 the greater size", s.next(), 0);
        // vertex 0 of the second square shares its place with a vertex of the first one
        ContourSimplifier squares = Check.picture(3, 3, "b/ab/");
        squares.trace(1, 4);
        Check.due("16 the first square", squares.next(), 0);
        squares.remove(0, 0);
        Check.due("16 not a vertex that cannot go", squares.next(), 1001);
        // the frame has the lower number, but only the hole can lose a vertex
        ContourSimplifier frame = Check.picture(3, 3, "3b/bab/3b");
        frame.trace(1, 4);
        Check.due("16 the hole", frame.next(), 1000);
        frame.remove(1, 0);
        Check.due("16 nothing more", frame.next(), NONE);
    }

    private static void removeArguments() {
        ContourSimplifier s = angle();
        Check.due("17 contour 1", s.remove(1, 0), NO_CONTOUR);
        Check.due("17 contour -1", s.remove(-1, 0), NO_CONTOUR);
        Check.due("17 vertex 6", s.remove(0, 6), NO_VERTEX);
        Check.due("17 vertex -1", s.remove(0, -1), NO_VERTEX);
        Check.due("17 the contour comes first", s.remove(1, 6), NO_CONTOUR);
        Check.due("17 the greatest", s.remove(0, Integer.MAX_VALUE), NO_VERTEX);
        Check.due("17 no step", s.count(5), 0);
        Check.due("17 size 2", s.remove(0, 0), 2);
        Check.due("17 not twice", s.remove(0, 0), NOT);
        Check.due("17 a step", s.count(5), 1);
        Check.due("17 present", s.count(3), 5);
        Check.dueText("17 polygon", Check.polygon(s, 0), "1,0 1,1 2,1 2,2 0,2");
        // vertex 5 has 2,2 and 1,0 beside it now; 1,1 is in its triangle, though not on its border
        Check.due("17 its neighbour's size", s.vertex(0, 5, 3), 4);
        Check.due("17 not over 1,1", s.remove(0, 5), NOT);
    }

    private static void removeKeepsThree() {
        ContourSimplifier s = Check.picture(5, 4, "/a3b/a3b/");
        s.trace(1, 4);
        Check.due("17 the first of four", s.remove(0, 3), 6);
        for (int v = 0; v < 4; v++) {
            Check.due("17 none of three: " + v, s.remove(0, v), NOT);
        }
        Check.due("17 one step", s.count(5), 1);
    }

    private static void removeOnlyFree() {
        // 2,1 is on the line from 4,0 to 0,2, the border of the triangle of 4,2
        ContourSimplifier notch = Check.picture(4, 3, "ba2b/4b/");
        notch.trace(1, 4);
        Check.dueText("17 a notch", Check.polygon(notch, 0), "0,0 1,0 1,1 2,1 2,0 4,0 4,2 0,2");
        Check.due("17 not with one on the border", notch.remove(0, 6), NOT);
        Check.due("17 it says so", notch.vertex(0, 6, 4), 0);
        Check.due("17 the one on the border goes", notch.remove(0, 3), 1);
        Check.due("17 then it is free", notch.remove(0, 6), 8);
        // a vertex of another contour
        ContourSimplifier frame = Check.picture(3, 3, "3b/bab/3b");
        frame.trace(1, 4);
        for (int v = 0; v < 4; v++) {
            Check.due("17 the hole is in the way of " + v, frame.remove(0, v), NOT);
        }
        Check.due("17 the hole loses one", frame.remove(1, 0), 1);
        // 1,2 went; the corner 0,3 has still 1,1 and 2,2 on the border of its triangle
        Check.due("17 still not", frame.remove(0, 3), NOT);
    }

    private static void removeNoSideTwice() {
        ContourSimplifier s = Check.picture(3, 3, "b/ab/");
        s.trace(1, 8);
        // 0,0 1,0 1,1 2,1 2,2 1,2 1,1 0,1
        Check.due("17 one of two at a place", s.remove(0, 2), NOT);
        Check.due("17 the other one", s.remove(0, 6), NOT);
        Check.due("17 a corner", s.remove(0, 1), 1);
        // the side from 0,0 to 1,1 is there now
        Check.due("17 no second side, backward", s.remove(0, 7), NOT);
        Check.due("17 nor from the other end", s.remove(0, 0), NOT);
        Check.due("17 the other square", s.remove(0, 4), 1);
        Check.due("17 no second side there", s.remove(0, 3), NOT);
        Check.due("17 nor there", s.remove(0, 5), NOT);
        Check.due("17 nothing more", s.next(), NONE);
        // a side of another contour: both squares keep the corner 1,1, and 0,0 or 2,2
        ContourSimplifier two = Check.picture(3, 3, "ab/ba/");
        two.trace(1, 4);
        Check.due("17 the lower right of the first", two.remove(0, 2), 1);
        Check.due("17 three are left", two.remove(0, 1), NOT);
        Check.due("17 the upper left of the second", two.remove(1, 0), 1);
    }

    private static void insertArguments() {
        ContourSimplifier s = angle();
        s.remove(0, 4);
        Check.due("18 contour 1", s.insert(1, 0), NO_CONTOUR);
        Check.due("18 contour -1", s.insert(-1, 9), NO_CONTOUR);
        Check.due("18 vertex 6", s.insert(0, 6), NO_VERTEX);
        Check.due("18 vertex -1", s.insert(0, -1), NO_VERTEX);
        Check.due("18 a present one", s.insert(0, 0), NOT);
        Check.due("18 no step", s.count(5), 1);
        Check.due("18 size", s.insert(0, 4), 2);
        Check.due("18 a step", s.count(5), 2);
        Check.due("18 not twice", s.insert(0, 4), NOT);
        Check.due("18 present", s.count(3), 6);
        Check.dueText("18 polygon", Check.polygon(s, 0), "0,0 1,0 1,1 2,1 2,2 0,2");
    }

    private static void insertNotThroughSides() {
        // 1,0 3,0 3,2 2,2 2,1 1,1
        ContourSimplifier s = Check.picture(4, 3, "abb/aab/");
        s.trace(1, 8);
        Check.due("18 remove 2,1", s.remove(0, 4), 1);
        Check.due("18 remove 3,0", s.remove(0, 1), 4);
        // the side from 1,0 to 3,2 goes through 2,1, but no vertex is in its triangle
        Check.due("18 a side in the way", s.insert(0, 4), NOT);
        Check.due("18 it says so", s.vertex(0, 4, 4), 0);
        Check.due("18 the size of the triangle", s.vertex(0, 4, 3), 1);
        Check.due("18 insert 3,0", s.insert(0, 1), 4);
        Check.due("18 no side in the way", s.insert(0, 4), 1);
        // 0,0 3,0 3,3 1,3 1,2 0,2: a side that crosses both new sides
        ContourSimplifier t = Check.picture(3, 3, "3b/3b/abb");
        t.trace(1, 4);
        Check.due("18 remove 0,2", t.remove(0, 5), 2);
        Check.due("18 remove 0,0", t.remove(0, 0), 6);
        Check.due("18 remove 3,0", t.remove(0, 1), 6);
        Check.dueText("18 what is left", Check.polygon(t, 0), "3,3 1,3 1,2");
        Check.due("18 across a side", t.insert(0, 5), NOT);
    }

    private static void insertNotAlongSides() {
        ContourSimplifier s = Check.picture(4, 3, "abb/aab/");
        s.trace(1, 4);
        Check.due("18 remove 2,1", s.remove(0, 4), 1);
        Check.due("18 remove 1,1", s.remove(0, 5), 1);
        Check.due("18 remove 3,0", s.remove(0, 1), 4);
        // the way from 2,1 to 1,0 would lie on the side from 1,0 to 3,2
        Check.due("18 along a side", s.insert(0, 4), NOT);
        Check.due("18 its size", s.vertex(0, 4, 3), 1);
    }

    private static void insertOnlyFree() {
        // 0,0 3,0 3,1 1,1 1,2 3,2 3,3 0,3
        ContourSimplifier s = Check.picture(3, 3, "3b/b/3b");
        s.trace(1, 4);
        int[][] removed = {{5, 2}, {6, 3}, {1, 3}, {7, 3}, {2, 2}};
        for (int[] r : removed) {
            Check.due("18 remove " + r[0], s.remove(0, r[0]), r[1]);
        }
        Check.dueText("18 what is left", Check.polygon(s, 0), "0,0 1,1 1,2");
        // 1,1 is in the triangle of 1,2 3,2 0,0, and no side is in the way
        Check.due("18 not free", s.insert(0, 5), NOT);
        Check.due("18 it says so", s.vertex(0, 5, 4), 0);
    }

    private static void insertOnLine() {
        // 1,0 3,0 3,1 2,1 2,2 1,2
        ContourSimplifier s = Check.picture(4, 3, "abb/ab/");
        s.trace(1, 4);
        Check.due("18 remove 3,1", s.remove(0, 2), 1);
        Check.due("18 remove 2,1", s.remove(0, 3), 1);
        Check.due("18 remove 2,2", s.remove(0, 4), 2);
        Check.due("18 2,1 is on the side", s.vertex(0, 3, 3), 0);
        Check.due("18 so it can be inserted", s.insert(0, 3), 0);
        Check.due("18 and be removed", s.remove(0, 3), 0);
        // 1,0 3,0 3,3 0,3 0,2 1,2
        ContourSimplifier t = Check.picture(3, 3, "abb/abb/3b");
        t.trace(1, 4);
        Check.due("18 remove 3,0", t.remove(0, 1), 6);
        Check.due("18 remove 1,0", t.remove(0, 0), 4);
        Check.due("18 remove 3,3", t.remove(0, 2), 3);
        Check.due("18 3,0 is in line with 1,2 and 0,3", t.vertex(0, 1, 3), 0);
        Check.due("18 but not between them", t.insert(0, 1), NOT);
    }

    private static void simplify() {
        ContourSimplifier s = angle();
        Check.due("19 limit 0", s.simplify(0), 0);
        Check.due("19 limit 1", s.simplify(1), 2);
        Check.dueText("19 polygon", Check.polygon(s, 0), "0,0 2,1 2,2 0,2");
        Check.due("19 steps", s.count(5), 2);
        Check.due("19 again", s.simplify(1), 0);
        Check.due("19 limit 2", s.simplify(2), 1);
        Check.dueText("19 polygon of three", Check.polygon(s, 0), "0,0 2,2 0,2");
        Check.due("19 limit 1000", s.simplify(1000), 0);
        Check.due("19 limit 1001", s.simplify(1001), BAD);
        Check.due("19 limit -1", s.simplify(-1), BAD);
        Check.due("19 greatest", s.simplify(Integer.MAX_VALUE), BAD);
        Check.due("19 without contours", new ContourSimplifier().simplify(1000), 0);
        Check.due("19 wrong without contours", new ContourSimplifier().simplify(-1), BAD);
        ContourSimplifier great = new ContourSimplifier();
        great.reset(16, 12);
        great.fill(0, 0, 16, 12, 1);
        great.trace(1, 4);
        Check.due("19 just too low", great.simplify(191), 0);
        Check.due("19 just enough", great.simplify(192), 1);
    }

    private static void simplifySizeZero() {
        ContourSimplifier s = Check.picture(4, 3, "abb/ab/");
        s.trace(1, 4);
        s.remove(0, 2);
        s.remove(0, 4);
        // 1,0 3,0 2,1 1,2: 2,1 is on the line
        Check.due("19 size 0", s.vertex(0, 3, 3), 0);
        Check.due("19 it is the next", s.next(), 3);
        Check.due("19 limit 0 removes it", s.simplify(0), 1);
        Check.dueText("19 then", Check.polygon(s, 0), "1,0 3,0 1,2");
    }

    private static void reduce() {
        ContourSimplifier s = angle();
        Check.due("20 to 6", s.reduce(6), 0);
        Check.due("20 to more", s.reduce(Integer.MAX_VALUE), 0);
        Check.due("20 to 5", s.reduce(5), 1);
        Check.dueText("20 then", Check.polygon(s, 0), "0,0 1,1 2,1 2,2 0,2");
        Check.due("20 to 0", s.reduce(0), 2);
        Check.due("20 steps", s.count(5), 3);
        Check.due("20 -1", s.reduce(-1), BAD);
        Check.due("20 least", s.reduce(Integer.MIN_VALUE), BAD);
        Check.due("20 without contours", new ContourSimplifier().reduce(0), 0);
        // the vertices of all contours count together
        ContourSimplifier two = Check.picture(5, 3, "bbabb/");
        two.trace(1, 4);
        Check.due("20 to 7 of 8", two.reduce(7), 1);
        Check.due("20 the first contour", two.contour(0, 4), 3);
        Check.due("20 the second contour", two.contour(1, 4), 4);
        Check.due("20 all that can go", two.reduce(1), 1);
    }

    private static void limitFor() {
        ContourSimplifier s = angle();
        int[] want = {NONE, NONE, NONE, 2, 1, 1, 0, 0};
        for (int total = 0; total < want.length; total++) {
            Check.due("21 for " + total, s.limitFor(total), want[total]);
        }
        Check.due("21 nothing changes", s.count(3), 6);
        Check.due("21 no step", s.count(5), 0);
        Check.dueText("21 polygon", Check.polygon(s, 0), "0,0 1,0 1,1 2,1 2,2 0,2");
        Check.due("21 -1", s.limitFor(-1), BAD);
        Check.due("21 greatest", s.limitFor(Integer.MAX_VALUE), 0);
        Check.due("21 without contours", new ContourSimplifier().limitFor(0), 0);
        s.remove(0, 5);
        s.remove(0, 2);
        Check.due("21 what was removed stays so", s.limitFor(3) == NONE ? 0 : 1, 1);
        Check.due("21 present", s.vertex(0, 2, 2), 0);
        Check.due("21 the next is as it was", s.next(), 1);
    }

    private static void limitForRisingAndFalling() {
        // the second removal may have a lesser size than the first: the limit is the greatest
        ContourSimplifier s = Check.picture(6, 6, "4ab/3abb/bb/bbabbb/aabab/abbaba");
        s.trace(1, 8);
        int greatest = 0;
        int all = s.count(3);
        int[] limits = new int[all + 1];
        for (int total = all; total >= 0; total--) {
            limits[total] = s.limitFor(total);
        }
        boolean fell = false;
        int before = 0;
        for (int total = all - 1; total >= 0 && s.next() != NONE; total--) {
            int size = s.vertex(s.next() / 1000, s.next() % 1000, 3);
            fell = fell || size < before;
            before = size;
            greatest = Math.max(greatest, size);
            s.reduce(total);
            Check.due("21 for " + total + " of " + all, limits[total], greatest);
        }
        Check.due("21 none below", s.count(3) == 0 ? NONE : limits[s.count(3) - 1], NONE);
        Check.due("21 a size fell", fell ? 1 : 0, 1);
    }

    private static void undo() {
        ContourSimplifier s = angle();
        Check.due("22 none", s.undo(), NONE);
        s.simplify(2);
        Check.due("22 first", s.undo(), 2);
        Check.dueText("22 3 is back", Check.polygon(s, 0), "0,0 2,1 2,2 0,2");
        s.insert(0, 1);
        Check.due("22 insertions too", s.undo(), 2);
        Check.due("22 1 is removed again", s.vertex(0, 1, 2), 0);
        Check.due("22 second", s.undo(), 1);
        Check.dueText("22 2 is back", Check.polygon(s, 0), "0,0 1,1 2,1 2,2 0,2");
        s.remove(0, 4);
        Check.due("22 a new step", s.count(5), 2);
        Check.due("22 back", s.undo(), 1);
        Check.due("22 third", s.undo(), 0);
        Check.dueText("22 as traced", Check.polygon(s, 0), "0,0 1,0 1,1 2,1 2,2 0,2");
        Check.due("22 no more", s.undo(), NONE);
        Check.due("22 it is no step itself", s.count(5), 0);
        s.remove(0, 1);
        s.trace(1, 4);
        Check.due("22 none after trace", s.undo(), NONE);
        Check.due("22 without contours", new ContourSimplifier().undo(), NONE);
    }

    private static void undoRemembers() {
        ContourSimplifier s = Check.picture(16, 9, "babababababababa//babababababababa//babababababababa//babababababababa//");
        // each of the 32 squares can lose one vertex, and get it back
        Check.due("22 squares", s.trace(1, 4), 32);
        Check.due("22 one ahead of all", s.remove(5, 2), 1);
        Check.due("22 and back", s.insert(5, 2), 1);
        int steps = 2;
        for (int i = 0; i < 12; i++) {
            Check.due("22 simplify", s.simplify(1), 32);
            steps = Math.min(600, steps + 32);
            Check.due("22 steps", s.count(5), steps);
            if (i < 9) {
                Check.due("22 refine", s.refine(), 32);
                steps = Math.min(600, steps + 32);
                Check.due("22 steps then", s.count(5), steps);
            } else {
                for (int u = 0; u < 32; u++) {
                    steps--;
                    Check.due("22 undo", s.undo(), steps);
                }
                Check.due("22 all are back", s.count(3), 128);
            }
        }
        Check.due("22 far back", s.simplify(1), 32);
        Check.due("22 at most 600", s.count(5), 600);
        Check.due("22 one less", s.undo(), 599);
        Check.due("22 the last square has four", s.contour(31, 4), 4);
        Check.due("22 the one before has three", s.contour(30, 4), 3);
    }

    private static void refine() {
        ContourSimplifier s = angle();
        Check.due("23 nothing to do", s.refine(), 0);
        s.simplify(2);
        Check.due("23 all", s.refine(), 3);
        Check.due("23 steps", s.count(5), 6);
        Check.dueText("23 polygon", Check.polygon(s, 0), "0,0 1,0 1,1 2,1 2,2 0,2");
        Check.due("23 the last one inserted goes first", s.undo(), 5);
        Check.due("23 it is the last vertex", s.vertex(0, 3, 2), 0);
        Check.due("23 without contours", new ContourSimplifier().refine(), 0);
        // two contours, in ascending order
        ContourSimplifier two = Check.picture(5, 3, "babb/");
        two.trace(1, 4);
        two.reduce(0);
        Check.due("23 one of each", two.refine(), 2);
        two.undo();
        Check.due("23 the second was inserted last", two.contour(1, 4), 3);
        Check.due("23 the first stays", two.contour(0, 4), 4);
    }

    private static void refineOnce() {
        // 1,0 3,0 3,3 0,3 0,2 1,2: 1,0 and 3,0 cannot be inserted before 3,3 is
        ContourSimplifier s = Check.picture(3, 3, "abb/abb/3b");
        s.trace(1, 4);
        s.remove(0, 1);
        s.remove(0, 0);
        s.remove(0, 2);
        Check.due("23 3,3 alone", s.refine(), 1);
        Check.dueText("23 it is back", Check.polygon(s, 0), "3,3 0,3 0,2 1,2");
        Check.due("23 the others then", s.refine(), 2);
        // 1,0 3,0 3,2 2,2 2,1 1,1: 2,1 waits for 3,0, which comes before it
        ContourSimplifier t = Check.picture(4, 3, "abb/aab/");
        t.trace(1, 4);
        t.remove(0, 4);
        t.remove(0, 1);
        Check.due("23 both", t.refine(), 2);
        // 0,0 1,0 1,1 2,1 2,2 0,2: the one that waits has the lower number
        ContourSimplifier u = Check.picture(3, 3, "b/bb/");
        u.trace(1, 4);
        Check.due("23 remove 1,1", u.remove(0, 2), 1);
        Check.due("23 remove 0,2", u.remove(0, 5), 4);
        Check.due("23 1,1 waits", u.vertex(0, 2, 4), 0);
        Check.due("23 so once is not enough", u.refine(), 1);
        Check.due("23 but twice", u.refine(), 1);
        Check.due("23 and no more", u.refine(), 0);
    }
}
