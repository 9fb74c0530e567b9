import java.util.Random;

/** Runs of calls, drawn with fixed seeds, on an object and on the model: all answers must agree. */
public final class ModelTest {
    private static final int CALLS = 512;

    private final Random random;
    private final ContourSimplifier s = new ContourSimplifier();
    private final Model m = new Model();
    private final String name;
    private int calls = 0;
    private int width = 8;
    private int height = 8;

    private ModelTest(String kind, int seed) {
        random = new Random(7919L * seed + kind.hashCode());
        name = kind + " run " + seed + ", call ";
    }

    public static void main(String[] args) {
        int runs = args.length > 0 ? Integer.parseInt(args[0]) : 40;
        int first = args.length > 1 ? Integer.parseInt(args[1]) : 0;
        for (int seed = first; seed < first + runs; seed++) {
            new ModelTest("small", seed).small();
            new ModelTest("noise", seed).noise(10, 8);
            new ModelTest("blocks", seed).blocks();
            new ModelTest("text", seed).text();
            new ModelTest("wrong", seed).wrong();
            if (seed % 8 == 0) {
                new ModelTest("great noise", seed).noise(16, 12);
            }
        }
        Check.end();
    }

    private int draw(int least, int greatest) {
        return least + random.nextInt(greatest - least + 1);
    }

    private void agree(String call, int got, int want) {
        calls++;
        // what an object answers after its last call is free
        if (calls <= CALLS) {
            Check.due(name + calls + ": " + call, got, want);
        }
    }

    private boolean isMore() {
        return calls < CALLS;
    }

    // ---- kinds of runs

    private void small() {
        while (isMore()) {
            start(draw(3, 6), draw(3, 6));
            for (int i = 0; i < 12; i++) {
                put(draw(0, width - 1), draw(0, height - 1), draw(0, 3));
            }
            retrace(draw(1, 3));
            for (int i = 0; i < 60 && isMore(); i++) {
                work();
            }
        }
    }

    private void noise(int w, int h) {
        start(w, h);
        int density = draw(2, 8);
        for (int y = 0; y < height; y++) {
            for (int x = 0; x < width; x++) {
                if (draw(0, 9) < density) {
                    put(x, y, draw(1, 9));
                }
            }
        }
        retrace(draw(1, 3));
        while (isMore()) {
            if (draw(0, 60) == 0) {
                retrace(draw(1, 9));
            }
            work();
        }
    }

    private void blocks() {
        while (isMore()) {
            start(draw(3, 16), draw(3, 12));
            for (int i = draw(1, 6); i > 0; i--) {
                int x = draw(0, width - 1);
                int y = draw(0, height - 1);
                rectangle(x, y, draw(1, width - x), draw(1, height - y), draw(0, 9));
                spread(draw(0, width - 1), draw(0, height - 1), draw(0, 9));
            }
            retrace(draw(1, 9));
            for (int i = 0; i < 90 && isMore(); i++) {
                work();
            }
        }
    }

    private void text() {
        start(draw(3, 16), draw(3, 12));
        while (isMore()) {
            if (draw(0, 3) == 0) {
                agree("clearText", s.clearText(), m.clearText());
            }
            for (int i = draw(0, 30); i > 0; i--) {
                char c = character();
                agree("type " + (int) c, s.type(c), m.type(c));
            }
            agree("readPicture", s.readPicture(), m.readPicture());
            agree("count(0)", s.count(0), m.count(0));
            retrace(draw(1, 9));
            for (int i = 0; i < 5; i++) {
                look();
            }
        }
    }

    private char character() {
        int kind = draw(0, 41);
        if (kind < 22) {
            return (char) draw('a', 'k');
        }
        if (kind < 32) {
            return '/';
        }
        if (kind < 40) {
            return (char) draw('0', '9');
        }
        // of all signs, those near the allowed ones would hardly ever be drawn
        return (char) (kind == 40 ? draw(' ', '~') : draw(0, 65535));
    }

    /** Numbers in and out of range alike, in all calls. */
    private void wrong() {
        while (isMore()) {
            int w = any(18);
            int h = any(13);
            agree("reset " + w + " " + h, s.reset(w, h), m.reset(w, h));
            width = m.count(6);
            height = m.count(7);
            for (int i = 0; i < 15; i++) {
                put(any(width), any(height), any(9));
                rectangle(any(width), any(height), any(4), any(4), any(9));
                spread(any(width), any(height), any(9));
            }
            int threshold = any(9);
            int connectivity = any(9);
            agree("trace " + threshold + " " + connectivity, s.trace(threshold, connectivity),
                    m.trace(threshold, connectivity));
            retrace(draw(1, 4));
            for (int i = 0; i < 60; i++) {
                work();
                step(any(4), any(12));
            }
        }
    }

    private int any(int greatest) {
        int kind = draw(0, 30);
        return kind == 0 ? Integer.MAX_VALUE : kind == 1 ? Integer.MIN_VALUE : draw(-1, greatest + 1);
    }

    // ---- calls

    private void start(int w, int h) {
        width = w;
        height = h;
        agree("reset " + w + " " + h, s.reset(w, h), m.reset(w, h));
    }

    private void put(int x, int y, int level) {
        agree("set " + x + " " + y + " " + level, s.set(x, y, level), m.set(x, y, level));
    }

    private void rectangle(int x, int y, int w, int h, int level) {
        agree("fill " + x + " " + y + " " + w + " " + h + " " + level, s.fill(x, y, w, h, level),
                m.fill(x, y, w, h, level));
    }

    private void spread(int x, int y, int level) {
        agree("flood " + x + " " + y + " " + level, s.flood(x, y, level), m.flood(x, y, level));
    }

    private void retrace(int threshold) {
        int connectivity = draw(0, 1) * 4 + 4;
        agree("trace " + threshold + " " + connectivity, s.trace(threshold, connectivity),
                m.trace(threshold, connectivity));
    }

    /** A step, or a look; most vertices are near the beginning, so that contours lose many. */
    private void work() {
        int c = draw(0, 2) == 0 ? draw(-1, Math.max(0, m.count(0))) : draw(0, Math.max(0, m.count(0) - 1));
        int v = draw(0, Math.max(4, m.contour(Math.max(0, c), 3)));
        int kind = draw(0, 19);
        if (kind < 7) {
            step(c, v);
        } else if (kind == 7) {
            int limit = draw(0, 9) == 0 ? draw(-1, 1001) : draw(0, 6);
            agree("simplify " + limit, s.simplify(limit), m.simplify(limit));
        } else if (kind == 8) {
            int total = Math.max(-1, m.count(3) - draw(-2, 9));
            agree("reduce " + total, s.reduce(total), m.reduce(total));
        } else if (kind == 9 && m.count(3) < 60) {
            int total = draw(-1, m.count(3) + 1);
            agree("limitFor " + total, s.limitFor(total), m.limitFor(total));
        } else if (kind == 10) {
            for (int i = draw(1, 8); i > 0; i--) {
                agree("undo", s.undo(), m.undo());
            }
        } else if (kind == 11 && draw(0, 2) == 0) {
            agree("refine", s.refine(), m.refine());
        } else {
            look();
        }
    }

    private void step(int c, int v) {
        if (draw(0, 1) == 0) {
            agree("remove " + c + " " + v, s.remove(c, v), m.remove(c, v));
        } else {
            agree("insert " + c + " " + v, s.insert(c, v), m.insert(c, v));
        }
    }

    private void look() {
        int c = draw(0, 9) == 0 ? draw(-2, 120) : draw(0, Math.max(0, m.count(0) - 1));
        int v = draw(-1, Math.max(4, m.contour(Math.max(0, c), 3)));
        int what = draw(-1, 10);
        int px = draw(-11, 41);
        int py = draw(-11, 41);
        switch (draw(0, 10)) {
            case 0:
                agree("count " + what, s.count(what), m.count(what));
                break;
            case 1:
                agree("contour " + c + " " + what, s.contour(c, what), m.contour(c, what));
                break;
            case 2:
                int property = draw(-1, 5);
                agree("vertex " + c + " " + v + " " + property, s.vertex(c, v, property), m.vertex(c, v, property));
                break;
            case 3:
                agree("bySize " + (c - 1), s.bySize(c - 1), m.bySize(c - 1));
                break;
            case 4:
                int i = draw(-2, 30);
                agree("chainCode " + c + " " + i, s.chainCode(c, i), m.chainCode(c, i));
                break;
            case 5:
                agree("next", s.next(), m.next());
                break;
            case 6:
                agree("covers " + c + " " + px + " " + py, s.covers(c, px, py), m.covers(c, px, py));
                break;
            case 7:
                agree("isCovered " + px + " " + py, s.isCovered(px, py), m.isCovered(px, py));
                break;
            case 8:
                agree("misfit", s.misfit(), m.misfit());
                break;
            case 9:
                int part = draw(-1, 2);
                agree("deviation " + c + " " + part, s.deviation(c, part), m.deviation(c, part));
                break;
            default:
                agree("level " + px + " " + py, s.level(px, py), m.level(px, py));
                break;
        }
    }
}
