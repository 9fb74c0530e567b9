/** The four examples of the document. */
public final class ExamplesTest {
    public static void main(String[] args) {
        rectangle();
        hole();
        corner();
        textAndFlood();
        Check.end();
    }

    private static void rectangle() {
        ContourSimplifier s = new ContourSimplifier();
        Check.due("1 reset(5, 4)", s.reset(5, 4), 20);
        Check.due("1 fill(1, 1, 3, 2, 7)", s.fill(1, 1, 3, 2, 7), 6);
        Check.due("1 trace(5, 4)", s.trace(5, 4), 1);
        Check.due("1 contour(0, 5)", s.contour(0, 5), 12);
        Check.due("1 chainCode(0, 0)", s.chainCode(0, 0), 82);
        Check.due("1 chainCode(0, 1)", s.chainCode(0, 1), 51);
        Check.due("1 vertex(0, 1, 0)", s.vertex(0, 1, 0), 4);
        Check.due("1 vertex(0, 1, 3)", s.vertex(0, 1, 3), 6);
        Check.due("1 next()", s.next(), 0);
        Check.due("1 remove(0, 0)", s.remove(0, 0), 6);
        Check.due("1 contour(0, 6)", s.contour(0, 6), 6);
        Check.due("1 remove(0, 1)", s.remove(0, 1), -1004);
        Check.due("1 insert(0, 0)", s.insert(0, 0), 6);
        Check.due("1 misfit()", s.misfit(), 0);
    }

    private static void hole() {
        ContourSimplifier s = new ContourSimplifier();
        Check.due("2 reset(5, 5)", s.reset(5, 5), 25);
        Check.due("2 fill(0, 0, 5, 5, 3)", s.fill(0, 0, 5, 5, 3), 25);
        Check.due("2 set(2, 2, 0)", s.set(2, 2, 0), 3);
        Check.due("2 trace(1, 8)", s.trace(1, 8), 2);
        Check.due("2 count(2)", s.count(2), 1);
        Check.due("2 contour(1, 0)", s.contour(1, 0), 1);
        Check.due("2 contour(1, 1)", s.contour(1, 1), 0);
        Check.due("2 contour(1, 5)", s.contour(1, 5), -2);
        Check.due("2 contour(0, 2)", s.contour(0, 2), 0);
        Check.due("2 contour(1, 2)", s.contour(1, 2), 1);
        Check.due("2 isCovered(5, 5)", s.isCovered(5, 5), 0);
        Check.due("2 isCovered(1, 1)", s.isCovered(1, 1), 1);
    }

    private static void corner() {
        ContourSimplifier s = new ContourSimplifier();
        Check.due("3 reset(4, 3)", s.reset(4, 3), 12);
        Check.due("3 set(0, 0, 9)", s.set(0, 0, 9), 0);
        Check.due("3 set(1, 1, 9)", s.set(1, 1, 9), 0);
        Check.due("3 trace(9, 4)", s.trace(9, 4), 2);
        Check.due("3 trace(9, 8)", s.trace(9, 8), 1);
        Check.due("3 contour(0, 3)", s.contour(0, 3), 8);
        Check.due("3 vertex(0, 2, 4)", s.vertex(0, 2, 4), 0);
        Check.due("3 limitFor(3)", s.limitFor(3), -1006);
    }

    private static void textAndFlood() {
        ContourSimplifier s = new ContourSimplifier();
        Check.due("4 reset(6, 4)", s.reset(6, 4), 24);
        Check.due("4 type('3')", s.type('3'), 1);
        Check.due("4 type('c')", s.type('c'), 2);
        Check.due("4 type('/')", s.type('/'), 3);
        Check.due("4 type('7')", s.type('7'), 4);
        Check.due("4 readPicture()", s.readPicture(), -103);
        Check.due("4 clearText()", s.clearText(), 4);
        Check.due("4 flood(0, 0, 2)", s.flood(0, 0, 2), 24);
        Check.due("4 trace(3, 4)", s.trace(3, 4), 0);
        Check.due("4 trace(2, 4)", s.trace(2, 4), 1);
        Check.due("4 contour(0, 3)", s.contour(0, 3), 4);
    }
}
