/** Which of several errors is answered, and that errors and NONE change nothing. */
public final class ErrorsTest {
    private static final int BAD = ContourSimplifier.BAD_VALUE;
    private static final int NONE = ContourSimplifier.NONE;
    private static final int NOT = ContourSimplifier.NOT_POSSIBLE;
    private static final int NO_CONTOUR = ContourSimplifier.NO_SUCH_CONTOUR;
    private static final int NO_VERTEX = ContourSimplifier.NO_SUCH_VERTEX;

    public static void main(String[] args) {
        ContourSimplifier plain = prepared();
        ContourSimplifier tried = prepared();
        allErrors(tried, "with contours");
        Check.dueText("state after errors", Check.state(tried), Check.state(plain));
        Check.due("next after errors", tried.next(), plain.next());
        Check.due("misfit after errors", tried.misfit(), plain.misfit());
        Check.due("undo after errors", tried.undo(), plain.undo());
        Check.due("text after errors", tried.clearText(), plain.clearText());

        allNones();
        withoutContours();
        fullText();
        Check.end();
    }

    /** An L and a square, one vertex of each removed, and one step taken back. */
    private static ContourSimplifier prepared() {
        ContourSimplifier s = Check.picture(5, 3, "b2ac/bb/");
        Check.due("trace", s.trace(1, 4), 2);
        Check.due("remove", s.remove(0, 1), 1);
        Check.due("remove", s.remove(1, 3), 1);
        Check.due("remove", s.remove(0, 4), 2);
        Check.due("undo", s.undo(), 2);
        Check.type(s, "2b/x");
        return s;
    }

    private static void allErrors(ContourSimplifier s, String when) {
        Check.due("reset, " + when, s.reset(2, 13), BAD);
        Check.due("set, " + when, s.set(0, 0, 10), BAD);
        Check.due("set, " + when, s.set(5, 0, 3), BAD);
        Check.due("fill, " + when, s.fill(0, 0, 6, 1, 3), BAD);
        Check.due("fill, " + when, s.fill(0, 0, 1, 1, 10), BAD);
        Check.due("flood, " + when, s.flood(0, 0, 10), BAD);
        Check.due("flood, " + when, s.flood(0, 3, 3), BAD);
        Check.due("level, " + when, s.level(0, 3), BAD);
        Check.due("readPicture, " + when, s.readPicture(), -103);
        Check.due("trace, " + when, s.trace(0, 4), BAD);
        Check.due("trace, " + when, s.trace(2, 5), BAD);
        Check.due("count, " + when, s.count(10), BAD);
        Check.due("contour, " + when, s.contour(2, 9), NO_CONTOUR);
        Check.due("contour, " + when, s.contour(0, 9), BAD);
        Check.due("vertex, " + when, s.vertex(2, 6, 5), NO_CONTOUR);
        Check.due("vertex, " + when, s.vertex(0, 6, 5), NO_VERTEX);
        Check.due("vertex, " + when, s.vertex(0, 5, 5), BAD);
        Check.due("bySize, " + when, s.bySize(-1), BAD);
        Check.due("chainCode, " + when, s.chainCode(2, -2), NO_CONTOUR);
        Check.due("chainCode, " + when, s.chainCode(2, 99), NO_CONTOUR);
        Check.due("chainCode, " + when, s.chainCode(0, -2), BAD);
        Check.due("remove, " + when, s.remove(2, 6), NO_CONTOUR);
        Check.due("remove, " + when, s.remove(0, 6), NO_VERTEX);
        Check.due("remove, " + when, s.remove(0, 1), NOT);
        Check.due("remove, " + when, s.remove(1, 0), NOT);
        Check.due("insert, " + when, s.insert(2, 6), NO_CONTOUR);
        Check.due("insert, " + when, s.insert(0, 6), NO_VERTEX);
        Check.due("insert, " + when, s.insert(0, 0), NOT);
        Check.due("simplify, " + when, s.simplify(1001), BAD);
        Check.due("reduce, " + when, s.reduce(-1), BAD);
        Check.due("limitFor, " + when, s.limitFor(-1), BAD);
        Check.due("covers, " + when, s.covers(2, 99, 99), NO_CONTOUR);
        Check.due("covers, " + when, s.covers(0, 99, 0), BAD);
        Check.due("isCovered, " + when, s.isCovered(0, 41), BAD);
        Check.due("deviation, " + when, s.deviation(2, 2), NO_CONTOUR);
        Check.due("deviation, " + when, s.deviation(0, 2), BAD);
    }

    private static void allNones() {
        ContourSimplifier plain = prepared();
        ContourSimplifier tried = prepared();
        Check.due("contour without a parent", tried.contour(0, 1), NONE);
        Check.due("bySize", tried.bySize(2), NONE);
        Check.due("chainCode", tried.chainCode(0, 99), NONE);
        Check.due("limitFor", tried.limitFor(5), NONE);
        Check.dueText("state after NONE", Check.state(tried), Check.state(plain));
        plain.reduce(0);
        tried.reduce(0);
        Check.due("next", tried.next(), NONE);
        Check.dueText("state after no next", Check.state(tried), Check.state(plain));
        plain.trace(1, 8);
        tried.trace(1, 8);
        Check.due("undo", tried.undo(), NONE);
        Check.dueText("state after no undo", Check.state(tried), Check.state(plain));
    }

    private static void withoutContours() {
        ContourSimplifier s = new ContourSimplifier();
        Check.due("contour", s.contour(0, 99), NO_CONTOUR);
        Check.due("vertex", s.vertex(0, 0, 99), NO_CONTOUR);
        Check.due("chainCode", s.chainCode(0, -5), NO_CONTOUR);
        Check.due("remove", s.remove(0, 0), NO_CONTOUR);
        Check.due("insert", s.insert(0, 0), NO_CONTOUR);
        Check.due("covers", s.covers(0, 99, 99), NO_CONTOUR);
        Check.due("deviation", s.deviation(0, 9), NO_CONTOUR);
        Check.due("misfit", s.misfit(), NOT);
        // contours that are gone leave nothing behind
        s.fill(0, 0, 8, 8, 1);
        s.trace(1, 4);
        s.reset(8, 8);
        Check.due("contour after reset", s.contour(0, 0), NO_CONTOUR);
        Check.due("vertex after reset", s.vertex(0, 0, 0), NO_CONTOUR);
        Check.due("isCovered after reset", s.isCovered(3, 3), 0);
        Check.due("next after reset", s.next(), NONE);
        Check.due("refine after reset", s.refine(), 0);
        Check.due("simplify after reset", s.simplify(1000), 0);
    }

    private static void fullText() {
        ContourSimplifier s = new ContourSimplifier();
        for (int i = 0; i < 200; i++) {
            s.type(i < 199 ? 'b' : '5');
        }
        Check.due("type", s.type('a'), ContourSimplifier.FULL);
        Check.due("length", s.count(9), 200);
        Check.due("the ninth is too much", s.readPicture(), -108);
    }
}
