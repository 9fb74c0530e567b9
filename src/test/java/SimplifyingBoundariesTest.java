/** Promises 16 to 23: a test for each sentence of the document that names a boundary case. */
public final class SimplifyingBoundariesTest {
    private static final int NO_CONTOUR = ContourSimplifier.NO_SUCH_CONTOUR;
    private static final int NO_VERTEX = ContourSimplifier.NO_SUCH_VERTEX;
    private static final int BAD = ContourSimplifier.BAD_VALUE;
    private static final int NOT = ContourSimplifier.NOT_POSSIBLE;
    private static final int NONE = ContourSimplifier.NONE;
    private static final int MIN = Integer.MIN_VALUE;
    private static final int MAX = Integer.MAX_VALUE;
    /** Numbers that no contour and no vertex has if there are few of them. */
    private static final int[] FAR = {-1, -2, 999, 65536, MIN, MAX};

    public static void main(String[] args) throws IllegalAccessException {
        Check.promises(SimplifyingBoundariesTest.class, 16, 23);
        Check.end();
    }

    private static ContourSimplifier traced(int width, int height, String text, int connectivity, int contours) {
        ContourSimplifier s = Check.picture(width, height, text);
        Check.due("trace " + connectivity, s.trace(1, connectivity), contours);
        return s;
    }

    /** Two contours, of each of which a vertex is removed: 0,0 1,0 1,1 2,1 2,2 0,2 and 3,0 4,0 4,1 3,1. */
    private static ContourSimplifier used() {
        ContourSimplifier s = traced(5, 3, "baab/bb/", 4, 2);
        Check.due("remove", s.remove(0, 1), 1);
        Check.due("remove", s.remove(1, 3), 1);
        Check.type(s, "2b/j");
        return s;
    }

    /** 0,0 1,0 1,1 2,1 2,2 0,2 with the sizes 2 1 1 1 2 4. */
    private static ContourSimplifier angle() {
        return traced(3, 3, "b/bb/", 4, 1);
    }

    /** The border of the greatest picture, 0,0 16,0 16,12 0,12. */
    private static ContourSimplifier greatest() {
        return traced(16, 12, "16b/16b/16b/16b/16b/16b/16b/16b/16b/16b/16b/16b", 4, 1);
    }

    /** A triangle that cannot lose a vertex. */
    private static ContourSimplifier triangle() {
        ContourSimplifier s = traced(3, 3, "b", 4, 1);
        Check.due("remove", s.remove(0, 3), 1);
        return s;
    }

    private static ContourSimplifier without(ContourSimplifier s, int contour, int... vertices) {
        for (int v : vertices) {
            Check.due("remove " + v, s.remove(contour, v) < 0 ? 1 : 0, 0);
        }
        return s;
    }

    private static void dueNotRemoved(ContourSimplifier s, int contour, int vertex, int size) {
        int present = s.count(3);
        int steps = s.count(5);
        String polygon = Check.polygon(s, contour);
        String name = contour + " " + vertex;
        Check.due("size of " + name, s.vertex(contour, vertex, 3), size);
        Check.due("is present " + name, s.vertex(contour, vertex, 2), 1);
        Check.due("can be removed " + name, s.vertex(contour, vertex, 4), 0);
        Check.due("remove " + name, s.remove(contour, vertex), NOT);
        Check.due("present", s.count(3), present);
        Check.due("steps", s.count(5), steps);
        Check.dueText("polygon", Check.polygon(s, contour), polygon);
    }

    private static void dueRemoved(ContourSimplifier s, int contour, int vertex, int size) {
        int present = s.count(3);
        int steps = s.count(5);
        String name = contour + " " + vertex;
        Check.due("can be removed " + name, s.vertex(contour, vertex, 4), 1);
        Check.due("remove " + name, s.remove(contour, vertex), size);
        Check.due("is present " + name, s.vertex(contour, vertex, 2), 0);
        Check.due("present", s.count(3), present - 1);
        Check.due("steps", s.count(5), steps + 1);
    }

    private static void dueNotInserted(ContourSimplifier s, int contour, int vertex, int size) {
        int present = s.count(3);
        int steps = s.count(5);
        String polygon = Check.polygon(s, contour);
        String name = contour + " " + vertex;
        Check.due("size of " + name, s.vertex(contour, vertex, 3), size);
        Check.due("is present " + name, s.vertex(contour, vertex, 2), 0);
        Check.due("can be inserted " + name, s.vertex(contour, vertex, 4), 0);
        Check.due("insert " + name, s.insert(contour, vertex), NOT);
        Check.due("present", s.count(3), present);
        Check.due("steps", s.count(5), steps);
        Check.dueText("polygon", Check.polygon(s, contour), polygon);
    }

    private static void dueInserted(ContourSimplifier s, int contour, int vertex, int size) {
        int present = s.count(3);
        int steps = s.count(5);
        String name = contour + " " + vertex;
        Check.due("can be inserted " + name, s.vertex(contour, vertex, 4), 1);
        Check.due("insert " + name, s.insert(contour, vertex), size);
        Check.due("is present " + name, s.vertex(contour, vertex, 2), 1);
        Check.due("present", s.count(3), present + 1);
        Check.due("steps", s.count(5), steps + 1);
    }

    // ---- 16: next

    static void promise16WithoutContoursThereIsNone() {
        ContourSimplifier s = new ContourSimplifier();
        Check.due("next", s.next(), NONE);
        s.trace(1, 4);
        Check.due("next after trace", s.next(), NONE);
    }

    static void promise16OfATriangleThereIsNone() {
        Check.due("next", triangle().next(), NONE);
    }

    static void promise16ThereIsNoneThoughMoreThanThreeArePresent() {
        // the hole has three left, and is in the way of each corner of the frame
        ContourSimplifier s = without(traced(3, 3, "3b/bab/3b", 4, 2), 1, 0);
        Check.due("present in the frame", s.contour(0, 4), 4);
        Check.due("next", s.next(), NONE);
    }

    static void promise16TheLeastSizeComesFirst() {
        // of the sizes 2 and 1 that of the second contour is the least
        Check.due("next", traced(4, 3, "bbab/", 4, 2).next(), 1000);
    }

    static void promise16OfSeveralTheLowestContourAndThenTheLowestVertex() {
        ContourSimplifier s = traced(5, 3, "babab/", 4, 3);
        Check.due("the first contour", s.next(), 0);
        Check.due("remove", s.remove(0, 2), 1);
        Check.due("the second contour", s.next(), 1000);
        Check.due("remove", s.remove(1, 0), 1);
        Check.due("the third contour", s.next(), 2000);
        // 0,0 1,0 1,1 2,1 2,2 0,2: vertices 1, 2 and 3 have the size 1
        Check.due("the lowest vertex", angle().next(), 1);
    }

    static void promise16AVertexThatCannotBeRemovedIsPassedOver() {
        // 0,0 2,0 2,1 3,1 3,2 2,2 2,1 0,1: the two vertices at 2,1 are in each other's way
        ContourSimplifier s = traced(4, 3, "bb/aab/", 8, 1);
        Check.due("size of one at the double place", s.vertex(0, 2, 3), 1);
        Check.due("it cannot be removed", s.vertex(0, 2, 4), 0);
        Check.due("next", s.next(), 3);
    }

    static void promise16TheLastVertexCanBeTheNext() {
        // 2,0 5,0 5,2 0,2 0,1 2,1 with the sizes 3 6 10 5 2 2
        ContourSimplifier s = traced(5, 3, "aa3b/5b/", 4, 1);
        Check.due("first", s.next(), 4);
        // 2,0 5,0 5,2 0,2 2,1: 2,1 has 0,2 before it now, and the size 2
        Check.due("remove", s.remove(0, 4), 2);
        Check.due("the last", s.next(), 5);
    }

    static void promise16ContoursFrom10OnAreToldByThousands() {
        ContourSimplifier s = new ContourSimplifier();
        s.reset(16, 12);
        for (int y = 0; y < 12; y += 2) {
            for (int x = 0; x < 16; x += 2) {
                s.set(x, y, 1);
            }
        }
        Check.due("trace", s.trace(1, 4), 48);
        Check.due("reduce", s.reduce(4 * 48 - 47), 47);
        Check.due("next", s.next(), 47000);
        Check.due("remove", s.remove(47, 0), 1);
        Check.due("no next", s.next(), NONE);
    }

    static void promise16NothingChanges() {
        ContourSimplifier s = used();
        s.next();
        Check.dueUnchanged(s, used());
        ContourSimplifier t = triangle();
        t.next();
        Check.dueUnchanged(t, triangle());
    }

    // ---- 17: remove

    static void promise17AContourThatIsNotThereIsRefused() {
        ContourSimplifier s = used();
        Check.due("behind the last", s.remove(2, 0), NO_CONTOUR);
        for (int c : FAR) {
            Check.due("remove " + c + " 0", s.remove(c, 0), NO_CONTOUR);
        }
        Check.due("without contours", new ContourSimplifier().remove(0, 0), NO_CONTOUR);
        Check.dueUnchanged(s, used());
    }

    static void promise17AVertexThatIsNotThereIsRefused() {
        ContourSimplifier s = used();
        Check.due("behind the last", s.remove(0, 6), NO_VERTEX);
        Check.due("behind the last of the second", s.remove(1, 4), NO_VERTEX);
        for (int v : FAR) {
            Check.due("remove 0 " + v, s.remove(0, v), NO_VERTEX);
        }
        Check.dueUnchanged(s, used());
    }

    static void promise17TheContourIsNamedFirst() {
        ContourSimplifier s = used();
        Check.due("remove 2 6", s.remove(2, 6), NO_CONTOUR);
        Check.due("remove -1 -1", s.remove(-1, -1), NO_CONTOUR);
    }

    static void promise17AVertexThatIsNotPresentIsRefused() {
        ContourSimplifier s = used();
        Check.due("remove 0 1", s.remove(0, 1), NOT);
        Check.due("remove 1 3", s.remove(1, 3), NOT);
        Check.dueUnchanged(s, used());
    }

    static void promise17OfFourPresentVerticesOneCanGo() {
        for (int v = 0; v < 4; v++) {
            dueRemoved(traced(3, 3, "b", 4, 1), 0, v, 1);
        }
    }

    static void promise17OfThreePresentVerticesNoneCanGo() {
        ContourSimplifier s = triangle();
        for (int v = 0; v < 3; v++) {
            dueNotRemoved(s, 0, v, 1);
        }
        // the same of six traced vertices: 0,0 1,1 2,2 0,2 loses 1,1
        ContourSimplifier six = without(angle(), 0, 1, 3, 2);
        Check.dueText("polygon", Check.polygon(six, 0), "0,0 2,2 0,2");
        dueNotRemoved(six, 0, 0, 4);
        dueNotRemoved(six, 0, 4, 4);
        dueNotRemoved(six, 0, 5, 4);
    }

    static void promise17AVertexInTheTriangleIsInTheWay() {
        // 0,0 3,0 3,1 1,1 1,2 0,2: 1,1 is in the triangle of 0,0
        ContourSimplifier s = traced(3, 3, "3b/b/", 4, 1);
        dueNotRemoved(s, 0, 0, 6);
        dueRemoved(s, 0, 3, 2);
        dueRemoved(s, 0, 0, 6);
    }

    static void promise17AVertexOfAnotherContourInTheTriangleIsInTheWay() {
        // of the hole only 2,1 is in the triangle of 0,0
        ContourSimplifier s = traced(4, 3, "4b/bbab/4b", 4, 2);
        dueNotRemoved(s, 0, 0, 12);
        Check.due("x", s.vertex(1, 3, 0), 2);
        Check.due("y", s.vertex(1, 3, 1), 1);
        dueRemoved(s, 1, 3, 1);
        dueRemoved(s, 0, 0, 12);
    }

    static void promise17AVertexOnTheBorderIsInTheWay() {
        // 1,0 5,0 5,2 3,2 3,1 1,1: 3,1 is on the line from 1,0 to 5,2
        ContourSimplifier s = traced(5, 3, "a4b/3abb/", 4, 1);
        dueNotRemoved(s, 0, 1, 8);
        dueRemoved(s, 0, 4, 2);
        dueRemoved(s, 0, 1, 8);
    }

    static void promise17AVertexOfAnotherContourOnTheBorderIsInTheWay() {
        // 2,2 of the hole is on the line from 4,4 to 0,0
        ContourSimplifier s = traced(4, 4, "4b/bbab/4b/4b", 4, 2);
        dueNotRemoved(s, 0, 3, 16);
        dueRemoved(s, 1, 0, 1);
        dueRemoved(s, 0, 3, 16);
    }

    static void promise17AVertexOnTheBorderIsInTheWayOfAnInnerCornerToo() {
        // 0,0 3,0 3,1 1,1 1,3 0,3: 2,2 of the other contour is on the line from 3,1 to 1,3
        ContourSimplifier s = traced(3, 3, "3b/b/bab", 4, 2);
        dueNotRemoved(s, 0, 3, 4);
        dueRemoved(s, 1, 0, 1);
        dueRemoved(s, 0, 3, 4);
    }

    static void promise17AVertexJustBeyondTheTriangleIsNotInTheWay() {
        // 2,3 3,3 1,2, and 1,3
        dueRemoved(without(traced(3, 3, "3b/3b/bab", 4, 1), 0, 4), 0, 3, 1);
        // 0,1 1,2 0,0, and 0,2
        dueRemoved(without(traced(3, 3, "3b/abb/3b", 8, 1), 0, 6), 0, 7, 1);
        // 1,2 3,1 1,3, and 2,1
        dueRemoved(without(traced(3, 3, "bb/3b/b", 8, 1), 0, 4), 0, 5, 2);
        // 2,2 3,1 2,3, and 2,1
        dueRemoved(without(traced(3, 3, "bb/abb/bb", 4, 1), 0, 4), 0, 5, 1);
        // 1,2 1,3 0,1, and 1,1
        dueRemoved(without(traced(3, 3, "abb/3b/abb", 8, 1), 0, 5), 0, 4, 1);
    }

    static void promise17AnotherVertexAtItsOwnPlaceIsInTheWay() {
        ContourSimplifier own = traced(3, 3, "/bb/aab", 8, 1);
        // 0,1 2,1 2,2 3,2 3,3 2,3 2,2 0,2
        dueNotRemoved(own, 0, 2, 1);
        dueNotRemoved(own, 0, 6, 2);
        ContourSimplifier other = traced(3, 3, "b/abb/", 4, 2);
        dueNotRemoved(other, 0, 2, 1);
        dueNotRemoved(other, 1, 0, 2);
    }

    static void promise17AnotherVertexAtThePlaceOfANeighbourIsNotInTheWay() {
        // 1,2 is a vertex of both contours
        ContourSimplifier s = traced(3, 3, "/b/abb", 4, 2);
        dueRemoved(s, 0, 1, 1);
        ContourSimplifier before = traced(3, 3, "/b/abb", 4, 2);
        dueRemoved(before, 0, 3, 1);
        // 2,2 is twice in one contour
        dueRemoved(traced(3, 3, "/bb/aab", 8, 1), 0, 1, 2);
    }

    static void promise17ASideOfItsOwnPolygonBetweenTheNeighboursIsInTheWay() {
        ContourSimplifier s = traced(3, 3, "/bb/aab", 8, 1);
        dueRemoved(s, 0, 1, 2);
        // 0,1 2,2 3,2 3,3 2,3 2,2 0,2: there is a side from 2,2 to 0,2, and one from 0,1 to 2,2
        dueNotRemoved(s, 0, 0, 2);
        dueNotRemoved(s, 0, 7, 2);
    }

    static void promise17ASideOfAnotherPolygonBetweenTheNeighboursIsInTheWay() {
        // the four pixels around a hole; its corners are also vertices of the outer contour
        ContourSimplifier s = traced(3, 3, "ab/bab/ab", 8, 2);
        Check.dueText("the outer contour", Check.polygon(s, 0), "1,0 2,0 2,1 3,1 3,2 2,2 2,3 1,3 1,2 0,2 0,1 1,1");
        Check.dueText("the hole", Check.polygon(s, 1), "1,2 2,2 2,1 1,1");
        int[][] pairs = {{0, 1}, {3, 4}, {6, 7}, {9, 10}};
        for (int[] pair : pairs) {
            dueRemoved(s, 0, pair[0], 1);
            dueNotRemoved(s, 0, pair[1], 1);
        }
        Check.due("no next", s.next(), NONE);
    }

    static void promise17TheFirstAndTheLastVertexHaveNeighboursAroundTheContour() {
        ContourSimplifier s = traced(4, 3, "4b/4b/", 4, 1);
        dueRemoved(s, 0, 0, 8);
        Check.dueText("without the first", Check.polygon(s, 0), "4,0 4,2 0,2");
        s.undo();
        dueRemoved(s, 0, 3, 8);
        Check.dueText("without the last", Check.polygon(s, 0), "0,0 4,0 4,2");
    }

    static void promise17ASizeOf0() {
        // 0,1 1,1 1,2 2,2 2,3 0,3, without 1,1 and 2,2: 1,2 is on the line from 0,1 to 2,3
        ContourSimplifier s = without(traced(4, 3, "/b/bb", 4, 1), 0, 3, 1);
        dueRemoved(s, 0, 2, 0);
    }

    static void promise17TheGreatestSize() {
        for (int v = 0; v < 4; v++) {
            dueRemoved(greatest(), 0, v, 192);
        }
    }

    // ---- 18: insert

    static void promise18AContourThatIsNotThereIsRefused() {
        ContourSimplifier s = used();
        Check.due("behind the last", s.insert(2, 1), NO_CONTOUR);
        for (int c : FAR) {
            Check.due("insert " + c + " 1", s.insert(c, 1), NO_CONTOUR);
        }
        Check.due("without contours", new ContourSimplifier().insert(0, 0), NO_CONTOUR);
        Check.dueUnchanged(s, used());
    }

    static void promise18AVertexThatIsNotThereIsRefused() {
        ContourSimplifier s = used();
        Check.due("behind the last", s.insert(0, 6), NO_VERTEX);
        Check.due("behind the last of the second", s.insert(1, 4), NO_VERTEX);
        for (int v : FAR) {
            Check.due("insert 0 " + v, s.insert(0, v), NO_VERTEX);
        }
        Check.dueUnchanged(s, used());
    }

    static void promise18TheContourIsNamedFirst() {
        ContourSimplifier s = used();
        Check.due("insert 2 6", s.insert(2, 6), NO_CONTOUR);
        Check.due("insert -1 -1", s.insert(-1, -1), NO_CONTOUR);
    }

    static void promise18AVertexThatIsPresentIsRefused() {
        ContourSimplifier s = used();
        for (int v : new int[] {0, 2, 3, 4, 5}) {
            Check.due("insert 0 " + v, s.insert(0, v), NOT);
        }
        Check.due("insert 1 0", s.insert(1, 0), NOT);
        Check.dueUnchanged(s, used());
    }

    static void promise18OfATriangleAVertexCanComeBack() {
        for (int v = 0; v < 4; v++) {
            dueInserted(without(traced(3, 3, "b", 4, 1), 0, v), 0, v, 1);
        }
    }

    static void promise18AVertexInTheTriangleIsInTheWay() {
        // 0,0 3,0 3,1 1,1 1,2 3,2 3,3 0,3; then 0,0 1,1 1,2 are left, and 1,1 is in the triangle of 3,2
        ContourSimplifier s = without(traced(3, 3, "3b/b/3b", 4, 1), 0, 5, 6, 1, 7, 2);
        Check.dueText("polygon", Check.polygon(s, 0), "0,0 1,1 1,2");
        dueNotInserted(s, 0, 5, 4);
    }

    static void promise18AVertexOnTheBorderIsInTheWay() {
        // 2,0 3,0 3,2 1,2 1,3 0,3 0,1 2,1: 1,2 is on the way from 0,3 to 2,1
        ContourSimplifier before = without(traced(3, 3, "aab/3b/b", 4, 1), 0, 7, 6);
        dueNotInserted(before, 0, 7, 2);
        // 0,0 1,0 1,1 3,1 3,3 2,3 2,2 0,2: 1,1 is on the way from 2,2 to 0,0
        ContourSimplifier behind = without(traced(3, 3, "b/3b/aab", 4, 1), 0, 6, 7);
        dueNotInserted(behind, 0, 6, 2);
    }

    static void promise18AVertexOfAnotherContourOnTheBorderIsInTheWay() {
        // 0,0 1,0 1,2 3,2 3,3 0,3: 2,1 of the other contour is on the way from 1,0 to 3,2
        ContourSimplifier s = without(traced(4, 3, "babb/b/3b", 4, 2), 0, 3, 2);
        dueNotInserted(s, 0, 3, 2);
    }

    static void promise18ASideThroughTheVertexIsInTheWay() {
        // 0,0 3,0 3,3 1,3 1,1 0,1: the side from 0,0 to 3,3 goes through 1,1
        ContourSimplifier own = without(traced(3, 3, "3b/abb/abb", 4, 1), 0, 4, 1);
        dueNotInserted(own, 0, 4, 2);
        dueInserted(own, 0, 1, 9);
        dueInserted(own, 0, 4, 2);
        // the side from 0,4 to 4,0 goes through 2,2 of the hole
        ContourSimplifier other = without(without(traced(4, 4, "4b/4b/bbab/4b", 4, 2), 1, 3), 0, 0);
        dueNotInserted(other, 1, 3, 1);
        dueInserted(other, 0, 0, 16);
        dueInserted(other, 1, 3, 1);
    }

    static void promise18ASideAcrossTheFirstWayIsInTheWay() {
        // 1,0 3,2 1,2 are left: the side from 3,2 to 1,2 is across the way from 1,0 to 3,3
        ContourSimplifier s = without(traced(5, 3, "a4b/a4b/3abb", 4, 1), 0, 3, 2, 1);
        Check.dueText("polygon", Check.polygon(s, 0), "1,0 3,2 1,2");
        dueNotInserted(s, 0, 3, 2);
    }

    static void promise18ASideAcrossTheSecondWayIsInTheWay() {
        // 1,0 3,1 3,2 are left: the side from 3,2 to 1,0 is across the way from 1,1 to 3,1
        ContourSimplifier s = without(traced(5, 3, "b/3b/", 8, 1), 0, 2, 0, 5);
        Check.dueText("polygon", Check.polygon(s, 0), "1,0 3,1 3,2");
        dueNotInserted(s, 0, 2, 2);
    }

    static void promise18ASideFromANeighbourAcrossTheOtherWayIsInTheWay() {
        // the side from 1,2 to its neighbour 3,1 is across the way from 3,0 to its neighbour 2,3
        ContourSimplifier before = without(traced(4, 3, "3ab/a3b/bab", 8, 1), 0, 0, 3, 4, 6, 8, 1, 12, 2);
        Check.dueText("polygon", Check.polygon(before, 0), "2,3 1,2 0,3 0,2 1,2 3,1");
        dueNotInserted(before, 0, 0, 1);
        // the side from its neighbour 2,1 to 2,3 is across the way from its neighbour 0,2 to 3,1
        ContourSimplifier behind = without(traced(3, 4, "abb/ab/bb/b", 4, 1), 0, 2, 5, 6, 1, 0, 9);
        Check.dueText("polygon", Check.polygon(behind, 0), "2,1 2,3 0,4 0,2");
        dueNotInserted(behind, 0, 2, 1);
    }

    static void promise18ASideOfAnotherPolygonAcrossBothWaysIsInTheWay() {
        // the side from 0,4 to 3,0 is across both sides of the corner 1,2 of the hole
        ContourSimplifier s = without(without(traced(3, 4, "3b/3b/bab/3b", 8, 2), 1, 3), 0, 0);
        dueNotInserted(s, 1, 3, 1);
        dueInserted(s, 0, 0, 12);
        dueInserted(s, 1, 3, 1);
    }

    static void promise18ASideAlongTheFirstWayIsInTheWay() {
        // 3,0 2,2 1,2 are left: the side from 1,2 to 3,0 lies on the way from 3,0 to 2,1
        ContourSimplifier s = without(traced(4, 3, "abb/ab/", 8, 1), 0, 3, 2, 0);
        Check.dueText("polygon", Check.polygon(s, 0), "3,0 2,2 1,2");
        dueNotInserted(s, 0, 3, 1);
    }

    static void promise18ASideAlongTheSecondWayIsInTheWay() {
        // 1,0 3,2 2,2 are left: the side from 1,0 to 3,2 lies on the way from 2,1 to 1,0
        ContourSimplifier s = without(traced(4, 4, "abb/aab/", 4, 1), 0, 4, 1, 5);
        Check.dueText("polygon", Check.polygon(s, 0), "1,0 3,2 2,2");
        dueNotInserted(s, 0, 4, 1);
    }

    static void promise18TheSideThatItReplacesIsNotInTheWay() {
        // 1,0 3,0 3,1 2,1 2,2 1,2: 2,1 is on the side from 3,0 to 1,2 itself
        ContourSimplifier s = without(traced(3, 3, "abb/ab/", 4, 1), 0, 3, 2, 4);
        dueInserted(s, 0, 3, 0);
        dueRemoved(s, 0, 3, 0);
    }

    static void promise18SidesThatMeetAtThePlacesOfTheNeighboursAreNotInTheWay() {
        // 1,2 is a vertex of both contours, so four sides meet there
        ContourSimplifier s = without(traced(3, 3, "/b/abb", 4, 2), 0, 1);
        dueInserted(s, 0, 1, 1);
        ContourSimplifier before = without(traced(3, 3, "/b/abb", 4, 2), 0, 3);
        dueInserted(before, 0, 3, 1);
        dueInserted(without(traced(3, 3, "/bb/aab", 8, 1), 0, 1), 0, 1, 2);
    }

    static void promise18WithASizeOf0ItMustLieBetweenTheNeighbours() {
        // 2,1 3,1 3,3 1,3 1,2 2,2, of which 1,3 1,2 2,2 are left: 3,1 is in line with 2,2 and 1,3, but beyond
        ContourSimplifier s = without(traced(3, 3, "/aab/abb", 8, 1), 0, 0, 1, 2);
        Check.dueText("polygon", Check.polygon(s, 0), "1,3 1,2 2,2");
        dueNotInserted(s, 0, 1, 0);
        // the same beyond the other end: 1,0 3,0 3,3 0,3 0,2 1,2, of which 0,3 0,2 1,2 are left
        ContourSimplifier t = without(traced(3, 3, "abb/abb/3b", 4, 1), 0, 1, 0, 2);
        Check.dueText("polygon", Check.polygon(t, 0), "0,3 0,2 1,2");
        dueNotInserted(t, 0, 1, 0);
    }

    static void promise18WithASizeOf0ItMayLieOnASideOfAnyDirection() {
        // 3,1 on the side from 3,0 to 3,3
        ContourSimplifier upright = without(traced(3, 3, "3b/bb/3b", 4, 1), 0, 2, 3, 5, 4);
        Check.dueText("upright", Check.polygon(upright, 0), "0,0 3,0 3,3 0,3");
        dueInserted(upright, 0, 2, 0);
        // 2,1 on the side from 0,1 to 3,1
        ContourSimplifier level = without(traced(3, 3, "ab/3b/bb", 4, 1), 0, 0, 1, 2, 9, 4, 5, 6);
        Check.dueText("level", Check.polygon(level, 0), "3,1 0,3 0,1");
        dueInserted(level, 0, 2, 0);
        // 1,2 on the side from 0,1 to 2,3
        ContourSimplifier falling = without(traced(4, 3, "/b/bb", 4, 1), 0, 3, 1, 2);
        Check.dueText("falling", Check.polygon(falling, 0), "0,1 2,3 0,3");
        dueInserted(falling, 0, 2, 0);
        // 2,2 on the side from 1,3 to 3,1
        ContourSimplifier rising = without(traced(3, 3, "/aab/abb", 4, 1), 0, 0, 4, 5);
        Check.dueText("rising", Check.polygon(rising, 0), "3,1 3,3 1,3");
        dueInserted(rising, 0, 5, 0);
    }

    static void promise18WithASizeOf0ItMustNotLieBeyondALevelOrUprightSide() {
        // 0,1 is in line with 1,1 and 3,1
        ContourSimplifier left = without(traced(3, 3, "bb/abb/abb", 4, 1), 0, 2, 7, 0, 1);
        Check.dueText("left", Check.polygon(left, 0), "3,1 3,3 1,3 1,1");
        dueNotInserted(left, 0, 7, 0);
        // 4,1 is in line with 1,1 and 3,1
        ContourSimplifier right = without(traced(4, 3, "babb/abb/abb", 8, 1), 0, 0, 3, 6, 4, 5);
        Check.dueText("right", Check.polygon(right, 0), "1,0 1,1 3,1 3,3 1,3 1,1 0,1");
        dueNotInserted(right, 0, 6, 0);
        // 1,0 is in line with 1,3 and 1,1
        ContourSimplifier above = without(traced(3, 3, "b/3b/abb", 4, 1), 0, 6, 1, 0, 7);
        Check.dueText("above", Check.polygon(above, 0), "1,1 3,1 3,3 1,3");
        dueNotInserted(above, 0, 1, 0);
    }

    static void promise18TheFirstAndTheLastVertexComeBackAtTheirPlaces() {
        ContourSimplifier s = without(traced(4, 3, "4b/4b/", 4, 1), 0, 0);
        dueInserted(s, 0, 0, 8);
        Check.dueText("the first", Check.polygon(s, 0), "0,0 4,0 4,2 0,2");
        dueRemoved(s, 0, 3, 8);
        dueInserted(s, 0, 3, 8);
        Check.dueText("the last", Check.polygon(s, 0), "0,0 4,0 4,2 0,2");
    }

    static void promise18TheGreatestSize() {
        for (int v = 0; v < 4; v++) {
            dueInserted(without(greatest(), 0, v), 0, v, 192);
        }
    }

    // ---- 19: simplify

    static void promise19ALimitBelow0IsRefused() {
        ContourSimplifier s = used();
        for (int limit : new int[] {-1, -2, MIN}) {
            Check.due("simplify " + limit, s.simplify(limit), BAD);
        }
        Check.due("without contours", new ContourSimplifier().simplify(-1), BAD);
        Check.dueUnchanged(s, used());
    }

    static void promise19ALimitAbove1000IsRefused() {
        ContourSimplifier s = used();
        for (int limit : new int[] {1001, 1002, 65536, MAX}) {
            Check.due("simplify " + limit, s.simplify(limit), BAD);
        }
        Check.due("without contours", new ContourSimplifier().simplify(1001), BAD);
        Check.dueUnchanged(s, used());
    }

    static void promise19TheLimit0RemovesOnlyVerticesOfTheSize0() {
        ContourSimplifier s = angle();
        Check.due("none", s.simplify(0), 0);
        Check.due("no steps", s.count(5), 0);
        without(s, 0, 1, 3);
        Check.due("one", s.simplify(0), 1);
        Check.dueText("polygon", Check.polygon(s, 0), "0,0 2,2 0,2");
    }

    static void promise19TheLimit1000RemovesAllThatCanGo() {
        ContourSimplifier s = greatest();
        Check.due("simplify", s.simplify(1000), 1);
        Check.due("no next", s.next(), NONE);
        Check.due("again", s.simplify(1000), 0);
    }

    static void promise19ASizeAtTheLimitIsRemoved() {
        ContourSimplifier s = greatest();
        Check.due("just below", s.simplify(191), 0);
        Check.due("no steps", s.count(5), 0);
        Check.due("at the limit", s.simplify(192), 1);
        ContourSimplifier t = angle();
        Check.due("1", t.simplify(1), 2);
        Check.due("again", t.simplify(1), 0);
        Check.due("2", t.simplify(2), 1);
    }

    static void promise19WithoutContoursNothingIsRemoved() {
        ContourSimplifier s = new ContourSimplifier();
        Check.due("simplify 0", s.simplify(0), 0);
        Check.due("simplify 1000", s.simplify(1000), 0);
        Check.due("steps", s.count(5), 0);
    }

    static void promise19OfATriangleNothingIsRemoved() {
        ContourSimplifier s = triangle();
        Check.due("simplify", s.simplify(1000), 0);
        Check.dueUnchanged(s, triangle());
    }

    static void promise19EachRemovalIsAStep() {
        ContourSimplifier s = angle();
        Check.due("simplify", s.simplify(2), 3);
        Check.due("steps", s.count(5), 3);
        Check.due("undo", s.undo(), 2);
        Check.dueText("polygon", Check.polygon(s, 0), "0,0 2,1 2,2 0,2");
    }

    // ---- 20: reduce

    static void promise20ANegativeTotalIsRefused() {
        ContourSimplifier s = used();
        for (int total : new int[] {-1, -2, MIN}) {
            Check.due("reduce " + total, s.reduce(total), BAD);
        }
        Check.due("without contours", new ContourSimplifier().reduce(-1), BAD);
        Check.dueUnchanged(s, used());
    }

    static void promise20TheTotal0RemovesAllThatCanGo() {
        ContourSimplifier s = angle();
        Check.due("reduce", s.reduce(0), 3);
        Check.due("present", s.count(3), 3);
        Check.due("again", s.reduce(0), 0);
    }

    static void promise20NoMoreVerticesThanTheTotalAreLeft() {
        for (int total = 3; total <= 6; total++) {
            ContourSimplifier s = angle();
            Check.due("reduce " + total, s.reduce(total), 6 - total);
            Check.due("present", s.count(3), total);
            Check.due("steps", s.count(5), 6 - total);
        }
    }

    static void promise20IfNoMoreArePresentNothingIsRemoved() {
        ContourSimplifier s = used();
        for (int total : new int[] {8, 9, 10, 1000, MAX}) {
            Check.due("reduce " + total, s.reduce(total), 0);
        }
        Check.dueUnchanged(s, used());
    }

    static void promise20OneMoreThanTheTotal() {
        ContourSimplifier s = used();
        Check.due("reduce", s.reduce(7), 1);
        Check.due("present", s.count(3), 7);
    }

    static void promise20TheVerticesOfAllContoursCount() {
        ContourSimplifier s = traced(5, 3, "bbab/", 4, 2);
        Check.due("to 7", s.reduce(7), 1);
        Check.due("of the second", s.contour(1, 4), 3);
        Check.due("of the first", s.contour(0, 4), 4);
        Check.due("to 5, which cannot be reached", s.reduce(5), 1);
        Check.due("of the first", s.contour(0, 4), 3);
    }

    static void promise20ItStopsIfThereIsNoNext() {
        ContourSimplifier s = traced(3, 3, "3b/bab/3b", 4, 2);
        Check.due("reduce", s.reduce(6), 1);
        Check.due("present", s.count(3), 7);
        Check.due("without contours", new ContourSimplifier().reduce(0), 0);
    }

    static void promise20ItIsNotBoundByALimit() {
        ContourSimplifier s = greatest();
        Check.due("reduce", s.reduce(3), 1);
    }

    // ---- 21: limitFor

    static void promise21ANegativeTotalIsRefused() {
        ContourSimplifier s = used();
        for (int total : new int[] {-1, -2, MIN}) {
            Check.due("limitFor " + total, s.limitFor(total), BAD);
        }
        Check.due("without contours", new ContourSimplifier().limitFor(-1), BAD);
        Check.dueUnchanged(s, used());
    }

    static void promise21ItIs0IfThereAreNoMoreVerticesAlready() {
        ContourSimplifier s = used();
        for (int total : new int[] {8, 9, 1000, MAX}) {
            Check.due("limitFor " + total, s.limitFor(total), 0);
        }
        Check.due("without contours", new ContourSimplifier().limitFor(0), 0);
        Check.due("of a triangle", triangle().limitFor(3), 0);
        Check.dueUnchanged(s, used());
    }

    static void promise21ThereIsNoneIfTooManyMustStay() {
        ContourSimplifier s = used();
        Check.due("3 of each stay", s.limitFor(6) == NONE ? 1 : 0, 0);
        for (int total : new int[] {5, 4, 3, 1, 0}) {
            Check.due("limitFor " + total, s.limitFor(total), NONE);
        }
        Check.due("of a triangle", triangle().limitFor(2), NONE);
        Check.due("of a frame that its hole holds", traced(3, 3, "3b/bab/3b", 4, 2).limitFor(6), NONE);
        Check.dueUnchanged(s, used());
    }

    static void promise21OneVertexTooMany() {
        Check.due("the greatest", greatest().limitFor(3), 192);
        Check.due("angle", angle().limitFor(5), 1);
    }

    static void promise21ALimitOf0ThatRemovesAVertex() {
        ContourSimplifier s = without(angle(), 0, 1, 3);
        Check.due("limitFor", s.limitFor(3), 0);
        Check.due("simplify", s.simplify(0), 1);
        Check.due("present", s.count(3), 3);
    }

    static void promise21ItIsTheLeastLimitThatIsEnough() {
        String picture = "4ab/3abb/bb/bbabbb/aabab/abbaba";
        int all = traced(6, 6, picture, 8, 2).count(3);
        int tried = 0;
        for (int total = 0; total <= all; total++) {
            int limit = traced(6, 6, picture, 8, 2).limitFor(total);
            if (limit != NONE) {
                ContourSimplifier enough = traced(6, 6, picture, 8, 2);
                enough.simplify(limit);
                Check.due("enough for " + total, enough.count(3) <= total ? 1 : 0, 1);
                tried++;
            } else {
                ContourSimplifier most = traced(6, 6, picture, 8, 2);
                most.simplify(1000);
                Check.due("none for " + total, most.count(3) > total ? 1 : 0, 1);
            }
            if (limit > 0) {
                ContourSimplifier less = traced(6, 6, picture, 8, 2);
                less.simplify(limit - 1);
                Check.due("too little for " + total, less.count(3) > total ? 1 : 0, 1);
            }
        }
        Check.due("some have a limit", tried > 5 && tried < all ? 1 : 0, 1);
    }

    static void promise21NothingChanges() {
        ContourSimplifier s = used();
        Check.due("limitFor", s.limitFor(6), 2);
        Check.dueUnchanged(s, used());
        ContourSimplifier t = used();
        Check.due("limitFor", t.limitFor(6), 2);
        Check.due("steps", t.count(5), 2);
        Check.due("undo", t.undo(), 1);
        Check.due("the second contour is whole", t.contour(1, 4), 4);
        Check.due("undo", t.undo(), 0);
        Check.due("the first contour is whole", t.contour(0, 4), 6);
    }

    // ---- 22: undo

    static void promise22WithoutStepsThereIsNone() {
        ContourSimplifier s = angle();
        Check.due("undo", s.undo(), NONE);
        Check.dueUnchanged(s, angle());
        Check.due("without contours", new ContourSimplifier().undo(), NONE);
    }

    static void promise22AfterTheLastStepThereIsNone() {
        ContourSimplifier s = used();
        Check.due("one is left", s.undo(), 1);
        Check.due("none is left", s.undo(), 0);
        Check.due("none", s.undo(), NONE);
        Check.due("none again", s.undo(), NONE);
        Check.dueText("as traced", Check.polygon(s, 0), "0,0 1,0 1,1 2,1 2,2 0,2");
        Check.due("steps", s.count(5), 0);
    }

    static void promise22AfterTraceThereIsNone() {
        ContourSimplifier s = used();
        s.trace(1, 4);
        Check.due("undo", s.undo(), NONE);
        Check.due("present", s.count(3), 10);
    }

    static void promise22RefusedCallsAreNoSteps() {
        ContourSimplifier s = used();
        s.remove(0, 1);
        s.insert(0, 0);
        s.simplify(1001);
        s.reduce(-1);
        s.limitFor(0);
        Check.due("undo", s.undo(), 1);
        Check.due("the latest step was in the second contour", s.contour(1, 4), 4);
        Check.due("not in the first", s.contour(0, 4), 5);
    }

    static void promise22CallsThatChangeNothingAreNoSteps() {
        ContourSimplifier s = used();
        Check.due("simplify", s.simplify(0), 0);
        Check.due("reduce", s.reduce(8), 0);
        Check.due("steps", s.count(5), 2);
        Check.due("undo", s.undo(), 1);
        Check.due("the latest step was in the second contour", s.contour(1, 4), 4);
    }

    static void promise22AnInsertionIsTakenBackToo() {
        ContourSimplifier s = used();
        Check.due("insert", s.insert(0, 1), 1);
        Check.due("undo", s.undo(), 2);
        Check.due("removed again", s.vertex(0, 1, 2), 0);
        Check.due("undo", s.undo(), 1);
        Check.due("undo", s.undo(), 0);
        Check.due("inserted again", s.vertex(0, 1, 2), 1);
    }

    static void promise22AStepThatWasTakenBackIsNotTakenBackAgain() {
        ContourSimplifier s = used();
        Check.due("undo", s.undo(), 1);
        Check.due("remove", s.remove(1, 0), 1);
        Check.due("undo", s.undo(), 1);
        Check.due("undo", s.undo(), 0);
        Check.due("present", s.count(3), 10);
        Check.due("none", s.undo(), NONE);
    }

    static void promise22AStepOfAContourWithoutAFreeWayIsTakenBack() {
        // 1,1 could not be inserted now, but its removal is the latest step but one
        ContourSimplifier s = without(traced(3, 3, "3b/abb/abb", 4, 1), 0, 4, 1);
        dueNotInserted(s, 0, 4, 2);
        Check.due("undo", s.undo(), 1);
        Check.due("undo", s.undo(), 0);
        Check.dueText("as traced", Check.polygon(s, 0), "0,0 3,0 3,3 1,3 1,1 0,1");
    }

    /** Six squares that have lost a vertex each and got it back, fifty times over. */
    private static ContourSimplifier with600Steps() {
        ContourSimplifier s = traced(12, 3, "babababababa/", 4, 6);
        for (int i = 0; i < 50; i++) {
            Check.due("simplify", s.simplify(1), 6);
            Check.due("refine", s.refine(), 6);
        }
        return s;
    }

    static void promise22SixHundredStepsAreRemembered() {
        ContourSimplifier s = with600Steps();
        Check.due("steps", s.count(5), 600);
        Check.due("undo", s.undo(), 599);
        Check.due("the last square", s.contour(5, 4), 3);
    }

    static void promise22TheStep601IsRememberedAndTheFirstForgotten() {
        ContourSimplifier s = with600Steps();
        Check.due("remove", s.remove(2, 2), 1);
        Check.due("steps", s.count(5), 600);
        Check.due("undo", s.undo(), 599);
        Check.due("its square is whole", s.contour(2, 4), 4);
        Check.due("undo", s.undo(), 598);
        Check.due("the last square", s.contour(5, 4), 3);
        Check.due("a new step", s.insert(5, 0), 1);
        Check.due("steps", s.count(5), 599);
    }

    static void promise22ManyStepsAreTakenBackInTheirOrder() {
        ContourSimplifier s = with600Steps();
        Check.due("simplify", s.simplify(1), 6);
        int left = 600;
        for (int round = 0; round < 20; round++) {
            // a round of removals is taken back, then a round of insertions
            for (int c = 5; c >= 0; c--) {
                left--;
                Check.due("undo", s.undo(), left);
            }
            Check.due("whole squares", s.count(3), 24);
            for (int c = 5; c >= 0; c--) {
                left--;
                Check.due("undo", s.undo(), left);
                Check.due("square " + c, round > 0 ? 3 : s.contour(c, 4), 3);
            }
            Check.due("triangles", s.count(3), 18);
        }
    }

    // ---- 23: refine

    static void promise23WithoutContoursNothingIsInserted() {
        ContourSimplifier s = new ContourSimplifier();
        Check.due("refine", s.refine(), 0);
        Check.due("steps", s.count(5), 0);
    }

    static void promise23IfAllArePresentNothingIsInserted() {
        ContourSimplifier s = angle();
        Check.due("refine", s.refine(), 0);
        Check.dueUnchanged(s, angle());
    }

    static void promise23AVertexThatCannotBeInsertedStaysRemoved() {
        // 1,0 3,0 3,3 0,3 0,2 1,2: of 1,0 and 3,0 neither can be inserted before 3,3 is
        ContourSimplifier s = without(traced(3, 3, "abb/abb/3b", 4, 1), 0, 1, 0, 2);
        Check.due("refine", s.refine(), 1);
        Check.dueText("polygon", Check.polygon(s, 0), "3,3 0,3 0,2 1,2");
        Check.due("steps", s.count(5), 4);
    }

    static void promise23ItGoesThroughTheVerticesOnce() {
        // 0,0 1,0 1,1 2,1 2,2 0,2: 1,1 has to wait for 0,2, which has a higher number
        ContourSimplifier s = without(angle(), 0, 2, 5);
        Check.due("first", s.refine(), 1);
        Check.due("0,2 is back", s.vertex(0, 5, 2), 1);
        Check.due("second", s.refine(), 1);
        Check.due("third", s.refine(), 0);
    }

    static void promise23AVertexCanBeInsertedBehindOneThatWasInsertedJustNow() {
        // 1,0 3,0 3,2 2,2 2,1 1,1: 2,1 has to wait for 3,0, which has a lower number
        ContourSimplifier s = without(traced(4, 3, "abb/aab/", 4, 1), 0, 4, 1);
        Check.due("refine", s.refine(), 2);
    }

    static void promise23AHoleWaitsForAContourWithALowerNumber() {
        ContourSimplifier s = without(without(traced(4, 4, "4b/4b/bbab/4b", 4, 2), 1, 3), 0, 0);
        dueNotInserted(s, 1, 3, 1);
        Check.due("refine", s.refine(), 2);
        Check.due("the latest is that of the hole", s.undo(), 3);
        Check.due("of the hole", s.contour(1, 4), 3);
        Check.due("of the frame", s.contour(0, 4), 4);
    }

    static void promise23EachInsertionIsAStep() {
        ContourSimplifier s = angle();
        s.simplify(2);
        Check.due("refine", s.refine(), 3);
        Check.due("steps", s.count(5), 6);
        Check.due("undo", s.undo(), 5);
        Check.due("the last one inserted", s.vertex(0, 3, 2), 0);
        Check.due("the others stay", s.count(3), 5);
    }
}
