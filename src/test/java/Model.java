import java.util.ArrayList;
import java.util.Arrays;
import java.util.Comparator;
import java.util.List;

/**
 * The document's words, as literally and as slowly as may be, to compare the class with. It shares
 * no code and no shortcut with the class.
 */
final class Model {
    static final int NO_SUCH_CONTOUR = -1001;
    static final int NO_SUCH_VERTEX = -1002;
    static final int BAD_VALUE = -1003;
    static final int NOT_POSSIBLE = -1004;
    static final int FULL = -1005;
    static final int NONE = -1006;

    private record Point(long x, long y) {
    }

    private record Arrow(Point from, Point to) {
        long dx() {
            return to.x - from.x;
        }

        long dy() {
            return to.y - from.y;
        }
    }

    /** A point with fractions for coordinates: x / by and y / by, by greater than 0. */
    private record Spot(long x, long y, long by) {
        boolean isAt(Point p) {
            return x == p.x * by && y == p.y * by;
        }
    }

    private static final class Vertex {
        final Point at;
        boolean present = true;

        Vertex(Point at) {
            this.at = at;
        }
    }

    private static final class Outline {
        final List<Arrow> arrows = new ArrayList<>();
        final List<Vertex> vertices = new ArrayList<>();
        Outline parent;

        List<Point> traced() {
            List<Point> points = new ArrayList<>();
            for (Vertex v : vertices) {
                points.add(v.at);
            }
            return points;
        }

        List<Point> polygon() {
            List<Point> points = new ArrayList<>();
            for (Vertex v : vertices) {
                if (v.present) {
                    points.add(v.at);
                }
            }
            return points;
        }

        Vertex neighbour(Vertex v, int step) {
            int n = vertices.size();
            int i = vertices.indexOf(v);
            do {
                i = Math.floorMod(i + step, n);
            } while (!vertices.get(i).present);
            return vertices.get(i);
        }

        boolean isHole() {
            return area(traced()) <= 0;
        }

        Arrow first() {
            return arrows.get(0);
        }
    }

    private record Change(Vertex vertex, boolean wasPresent) {
    }

    private int[][] levels = new int[8][8];
    private String text = "";
    private int threshold = 0;
    private List<Outline> outlines = new ArrayList<>();
    private List<Change> changes = new ArrayList<>();

    // ---- the picture

    private int width() {
        return levels[0].length;
    }

    private int height() {
        return levels.length;
    }

    private boolean in(int x, int y) {
        return x >= 0 && y >= 0 && x < width() && y < height();
    }

    private void forget() {
        outlines = new ArrayList<>();
        changes = new ArrayList<>();
        threshold = 0;
    }

    int reset(int w, int h) {
        if (w < 3 || w > 16 || h < 3 || h > 12) {
            return BAD_VALUE;
        }
        levels = new int[h][w];
        forget();
        return w * h;
    }

    int set(int x, int y, int level) {
        if (!in(x, y) || level < 0 || level > 9) {
            return BAD_VALUE;
        }
        int before = levels[y][x];
        levels[y][x] = level;
        return before;
    }

    int fill(int x, int y, int w, int h, int level) {
        if (level < 0 || level > 9 || w < 1 || h < 1 || x < 0 || y < 0
                || (long) x + w > width() || (long) y + h > height()) {
            return BAD_VALUE;
        }
        int changed = 0;
        for (int i = 0; i < h; i++) {
            for (int j = 0; j < w; j++) {
                changed += levels[y + i][x + j] != level ? 1 : 0;
                levels[y + i][x + j] = level;
            }
        }
        return changed;
    }

    int flood(int x, int y, int level) {
        if (!in(x, y) || level < 0 || level > 9) {
            return BAD_VALUE;
        }
        boolean[][] reached = new boolean[height()][width()];
        reached[y][x] = true;
        boolean grows = true;
        while (grows) {
            grows = false;
            for (int i = 0; i < height(); i++) {
                for (int j = 0; j < width(); j++) {
                    if (!reached[i][j] && levels[i][j] == levels[y][x]
                            && (in(j - 1, i) && reached[i][j - 1] || in(j + 1, i) && reached[i][j + 1]
                            || in(j, i - 1) && reached[i - 1][j] || in(j, i + 1) && reached[i + 1][j])) {
                        reached[i][j] = true;
                        grows = true;
                    }
                }
            }
        }
        int changed = 0;
        for (int i = 0; i < height(); i++) {
            for (int j = 0; j < width(); j++) {
                if (reached[i][j]) {
                    changed += levels[i][j] != level ? 1 : 0;
                    levels[i][j] = level;
                }
            }
        }
        return changed;
    }

    int level(int x, int y) {
        return in(x, y) ? levels[y][x] : BAD_VALUE;
    }

    int type(char character) {
        if (text.length() == 200) {
            return FULL;
        }
        text = text + character;
        return text.length();
    }

    int clearText() {
        int length = text.length();
        text = "";
        return length;
    }

    /** Whether some faultless text begins with this one. */
    private boolean canBeContinued(String begin) {
        String[] rows = begin.split("/", -1);
        if (rows.length > height()) {
            return false;
        }
        for (int r = 0; r < rows.length; r++) {
            boolean isLast = r == rows.length - 1;
            if (!rows[r].matches("([1-9][0-9]*)?([a-j]([1-9][0-9]*)?)*") || !isLast && rows[r].matches(".*[0-9]")) {
                return false;
            }
            if (pixelsOf(rows[r]).size() > width()) {
                return false;
            }
        }
        return true;
    }

    /** A number at the end stands for a run of the level 0. */
    private List<Integer> pixelsOf(String row) {
        List<Integer> pixels = new ArrayList<>();
        String rest = row.matches(".*[0-9]") ? row + "a" : row;
        while (!rest.isEmpty()) {
            int digits = 0;
            while (Character.isDigit(rest.charAt(digits))) {
                digits++;
            }
            int n = digits == 0 ? 1 : digits > 3 ? 1000 : Integer.parseInt(rest.substring(0, digits));
            for (int i = 0; i < n; i++) {
                pixels.add(rest.charAt(digits) - 'a');
            }
            rest = rest.substring(digits + 1);
        }
        return pixels;
    }

    int readPicture() {
        for (int i = 0; i < text.length(); i++) {
            if (!canBeContinued(text.substring(0, i + 1))) {
                return -100 - i;
            }
        }
        if (text.matches("(?s).*[0-9]")) {
            return -100 - text.length();
        }
        int[][] read = new int[height()][width()];
        String[] rows = text.split("/", -1);
        for (int r = 0; r < rows.length; r++) {
            List<Integer> pixels = pixelsOf(rows[r]);
            for (int i = 0; i < pixels.size(); i++) {
                read[r][i] = pixels.get(i);
            }
        }
        int changed = 0;
        for (int y = 0; y < height(); y++) {
            for (int x = 0; x < width(); x++) {
                changed += read[y][x] != levels[y][x] ? 1 : 0;
            }
        }
        levels = read;
        forget();
        return changed;
    }

    // ---- contours

    private boolean inside(int x, int y) {
        return in(x, y) && levels[y][x] >= threshold;
    }

    private List<Arrow> allArrows() {
        List<Arrow> arrows = new ArrayList<>();
        for (int x = 0; x < width(); x++) {
            for (int y = 0; y < height(); y++) {
                if (inside(x, y)) {
                    Point leftUp = new Point(x, y);
                    Point rightUp = new Point(x + 1, y);
                    Point rightDown = new Point(x + 1, y + 1);
                    Point leftDown = new Point(x, y + 1);
                    if (!inside(x, y - 1)) {
                        arrows.add(new Arrow(leftUp, rightUp));
                    }
                    if (!inside(x + 1, y)) {
                        arrows.add(new Arrow(rightUp, rightDown));
                    }
                    if (!inside(x, y + 1)) {
                        arrows.add(new Arrow(rightDown, leftDown));
                    }
                    if (!inside(x - 1, y)) {
                        arrows.add(new Arrow(leftDown, leftUp));
                    }
                }
            }
        }
        return arrows;
    }

    private static Arrow behind(Arrow arrow, List<Arrow> all, int connectivity) {
        List<Arrow> begin = new ArrayList<>();
        for (Arrow other : all) {
            if (other.from.equals(arrow.to)) {
                begin.add(other);
            }
        }
        if (begin.size() == 1) {
            return begin.get(0);
        }
        for (Arrow other : begin) {
            boolean turnsRight = arrow.dx() * other.dy() - arrow.dy() * other.dx() > 0;
            if (turnsRight == (connectivity == 4)) {
                return other;
            }
        }
        throw new IllegalStateException("no arrow begins where one ends");
    }

    int trace(int newThreshold, int connectivity) {
        if (newThreshold < 1 || newThreshold > 9 || connectivity != 4 && connectivity != 8) {
            return BAD_VALUE;
        }
        forget();
        threshold = newThreshold;
        List<Arrow> all = allArrows();
        List<Arrow> left = new ArrayList<>(all);
        Comparator<Arrow> byPlace = Comparator.comparingLong((Arrow a) -> a.from.y).thenComparingLong(a -> a.from.x);
        while (!left.isEmpty()) {
            List<Arrow> loop = new ArrayList<>();
            Arrow arrow = left.get(left.size() - 1);
            while (left.remove(arrow)) {
                loop.add(arrow);
                arrow = behind(arrow, all, connectivity);
            }
            Arrow first = loop.stream().filter(a -> a.dx() == 1).min(byPlace).orElseThrow();
            Outline outline = new Outline();
            int at = loop.indexOf(first);
            for (int i = 0; i < loop.size(); i++) {
                Arrow before = loop.get(Math.floorMod(at + i - 1, loop.size()));
                Arrow now = loop.get((at + i) % loop.size());
                outline.arrows.add(now);
                if (before.dx() != now.dx() || before.dy() != now.dy()) {
                    outline.vertices.add(new Vertex(now.from));
                }
            }
            outlines.add(outline);
        }
        outlines.sort(Comparator.comparing(Outline::first, byPlace));
        for (Outline o : outlines) {
            Point first = o.vertices.get(0).at;
            long px = 2 * first.x + 1;
            long py = 2 * (o.isHole() ? first.y - 1 : first.y) + 1;
            for (Outline other : outlines) {
                if (other != o && covered(other.traced(), px, py) && (o.parent == null
                        || Math.abs(area(other.traced())) < Math.abs(area(o.parent.traced())))) {
                    o.parent = other;
                }
            }
        }
        return outlines.size();
    }

    private static long area(List<Point> points) {
        long sum = 0;
        for (int i = 0; i < points.size(); i++) {
            Point p = points.get(i);
            Point q = points.get((i + 1) % points.size());
            sum += p.x * q.y - q.x * p.y;
        }
        return sum;
    }

    int count(int what) {
        int present = 0;
        int vertices = 0;
        int holes = 0;
        for (Outline o : outlines) {
            present += o.polygon().size();
            vertices += o.vertices.size();
            holes += o.isHole() ? 1 : 0;
        }
        int[] counts = {outlines.size(), outlines.size() - holes, holes, present, vertices,
            Math.min(600, changes.size()), width(), height(), threshold, text.length()};
        return what < 0 || what > 9 ? BAD_VALUE : counts[what];
    }

    private static int depth(Outline o) {
        return o.parent == null ? 0 : 1 + depth(o.parent);
    }

    int contour(int contour, int what) {
        if (contour < 0 || contour >= outlines.size()) {
            return NO_SUCH_CONTOUR;
        }
        Outline o = outlines.get(contour);
        int children = 0;
        for (Outline other : outlines) {
            children += other.parent == o ? 1 : 0;
        }
        long[] properties = {o.isHole() ? 1 : 0, o.parent == null ? NONE : outlines.indexOf(o.parent), depth(o),
            o.vertices.size(), o.polygon().size(), area(o.traced()), area(o.polygon()), o.arrows.size(), children};
        return what < 0 || what > 8 ? BAD_VALUE : (int) properties[what];
    }

    private int fault(int contour, int vertex) {
        if (contour < 0 || contour >= outlines.size()) {
            return NO_SUCH_CONTOUR;
        }
        return vertex < 0 || vertex >= outlines.get(contour).vertices.size() ? NO_SUCH_VERTEX : 0;
    }

    int vertex(int contour, int vertex, int what) {
        int fault = fault(contour, vertex);
        if (fault != 0) {
            return fault;
        }
        Outline o = outlines.get(contour);
        Vertex v = o.vertices.get(vertex);
        switch (what) {
            case 0:
                return (int) v.at.x;
            case 1:
                return (int) v.at.y;
            case 2:
                return v.present ? 1 : 0;
            case 3:
                return (int) size(o, v);
            case 4:
                return (v.present ? canRemove(o, v) : canInsert(o, v)) ? 1 : 0;
            default:
                return BAD_VALUE;
        }
    }

    int bySize(int place) {
        if (place < 0) {
            return BAD_VALUE;
        }
        List<Outline> sorted = new ArrayList<>(outlines);
        sorted.sort(Comparator.comparingLong((Outline o) -> -Math.abs(area(o.polygon()))));
        return place >= sorted.size() ? NONE : outlines.indexOf(sorted.get(place));
    }

    int chainCode(int contour, int i) {
        if (contour < 0 || contour >= outlines.size()) {
            return NO_SUCH_CONTOUR;
        }
        if (i < -1) {
            return BAD_VALUE;
        }
        StringBuilder code = new StringBuilder();
        int run = 0;
        Arrow before = null;
        for (Arrow a : outlines.get(contour).arrows) {
            if (before != null && before.dx() == a.dx() && before.dy() == a.dy()) {
                run++;
            } else {
                code.append(before == null ? "" : String.valueOf(run));
                code.append(a.dx() == 1 ? 'R' : a.dx() == -1 ? 'L' : a.dy() == 1 ? 'D' : 'U');
                run = 1;
            }
            before = a;
        }
        code.append(run);
        return i == -1 ? code.length() : i >= code.length() ? NONE : code.charAt(i);
    }

    // ---- simplifying

    private static long size(Point a, Point v, Point b) {
        return Math.abs((v.x - a.x) * (b.y - a.y) - (v.y - a.y) * (b.x - a.x));
    }

    private static long size(Outline o, Vertex v) {
        return size(o.neighbour(v, -1).at, v.at, o.neighbour(v, 1).at);
    }

    private static long distance(Point p, Point q) {
        return (p.x - q.x) * (p.x - q.x) + (p.y - q.y) * (p.y - q.y);
    }

    private static boolean onSegment(Point p, Point from, Point to) {
        // the angle at p between the ends is straight, or p is at an end
        long dot = (from.x - p.x) * (to.x - p.x) + (from.y - p.y) * (to.y - p.y);
        return size(from, p, to) == 0 && (p.equals(from) || p.equals(to) || dot < 0);
    }

    private static boolean inTriangle(Point p, Point a, Point v, Point b) {
        if (size(a, v, b) > 0) {
            // the three parts are together as great as the whole just for points of the triangle
            return size(a, v, p) + size(v, b, p) + size(b, a, p) == size(a, v, b);
        }
        Point from = a;
        Point to = v;
        if (distance(v, b) > distance(from, to)) {
            from = v;
            to = b;
        }
        if (distance(a, b) > distance(from, to)) {
            from = a;
            to = b;
        }
        return onSegment(p, from, to);
    }

    private boolean isFree(Outline o, Vertex v) {
        Point a = o.neighbour(v, -1).at;
        Point b = o.neighbour(v, 1).at;
        for (Outline other : outlines) {
            for (Vertex w : other.vertices) {
                if (w != v && w.present && !w.at.equals(a) && !w.at.equals(b) && inTriangle(w.at, a, v.at, b)) {
                    return false;
                }
            }
        }
        return true;
    }

    private boolean canRemove(Outline o, Vertex v) {
        if (o.polygon().size() < 4 || !isFree(o, v)) {
            return false;
        }
        Point a = o.neighbour(v, -1).at;
        Point b = o.neighbour(v, 1).at;
        for (Outline other : outlines) {
            List<Point> points = other.polygon();
            for (int i = 0; i < points.size(); i++) {
                Point p = points.get(i);
                Point q = points.get((i + 1) % points.size());
                if (p.equals(a) && q.equals(b) || p.equals(b) && q.equals(a)) {
                    return false;
                }
            }
        }
        return true;
    }

    /** Some common points of two segments: all, if it is one; otherwise the ends of what is common. */
    private static List<Spot> common(Point p, Point q, Point u, Point w) {
        List<Spot> spots = new ArrayList<>();
        long across = (q.x - p.x) * (w.y - u.y) - (q.y - p.y) * (w.x - u.x);
        if (across == 0) {
            for (Point end : Arrays.asList(p, q, u, w)) {
                if (onSegment(end, p, q) && onSegment(end, u, w)) {
                    spots.add(new Spot(end.x, end.y, 1));
                }
            }
            return spots;
        }
        // p + s / across * (q - p) == u + t / across * (w - u)
        long s = (u.x - p.x) * (w.y - u.y) - (u.y - p.y) * (w.x - u.x);
        long t = (u.x - p.x) * (q.y - p.y) - (u.y - p.y) * (q.x - p.x);
        if (across < 0) {
            across = -across;
            s = -s;
            t = -t;
        }
        if (s >= 0 && s <= across && t >= 0 && t <= across) {
            spots.add(new Spot(p.x * across + s * (q.x - p.x), p.y * across + s * (q.y - p.y), across));
        }
        return spots;
    }

    private static boolean inWay(List<Spot> spots, Point a, Point b) {
        for (Spot spot : spots) {
            if (!spot.isAt(a) && !spot.isAt(b)) {
                return true;
            }
            // two different ends of a common part: there are other points between them
            if (spot.x != spots.get(0).x || spot.y != spots.get(0).y) {
                return true;
            }
        }
        return false;
    }

    private boolean canInsert(Outline o, Vertex v) {
        Vertex a = o.neighbour(v, -1);
        Vertex b = o.neighbour(v, 1);
        if (!isFree(o, v) || size(o, v) == 0 && !onSegment(v.at, a.at, b.at)) {
            return false;
        }
        for (Outline other : outlines) {
            for (Vertex p : other.vertices) {
                if (p.present && p != a) {
                    Point q = other.neighbour(p, 1).at;
                    if (inWay(common(p.at, q, a.at, v.at), a.at, b.at)
                            || inWay(common(p.at, q, v.at, b.at), a.at, b.at)) {
                        return false;
                    }
                }
            }
        }
        return true;
    }

    int next() {
        int found = NONE;
        long least = Long.MAX_VALUE;
        for (int c = 0; c < outlines.size(); c++) {
            Outline o = outlines.get(c);
            for (int i = 0; i < o.vertices.size(); i++) {
                Vertex v = o.vertices.get(i);
                if (v.present && canRemove(o, v) && size(o, v) < least) {
                    least = size(o, v);
                    found = 1000 * c + i;
                }
            }
        }
        return found;
    }

    private void change(Vertex v) {
        changes.add(new Change(v, v.present));
        v.present = !v.present;
    }

    int remove(int contour, int vertex) {
        int fault = fault(contour, vertex);
        if (fault != 0) {
            return fault;
        }
        Outline o = outlines.get(contour);
        Vertex v = o.vertices.get(vertex);
        if (!v.present || !canRemove(o, v)) {
            return NOT_POSSIBLE;
        }
        change(v);
        return (int) size(o, v);
    }

    int insert(int contour, int vertex) {
        int fault = fault(contour, vertex);
        if (fault != 0) {
            return fault;
        }
        Outline o = outlines.get(contour);
        Vertex v = o.vertices.get(vertex);
        if (v.present || !canInsert(o, v)) {
            return NOT_POSSIBLE;
        }
        change(v);
        return (int) size(o, v);
    }

    int simplify(int limit) {
        if (limit < 0 || limit > 1000) {
            return BAD_VALUE;
        }
        int removed = 0;
        int next = next();
        while (next != NONE && vertex(next / 1000, next % 1000, 3) <= limit) {
            remove(next / 1000, next % 1000);
            removed++;
            next = next();
        }
        return removed;
    }

    int reduce(int total) {
        if (total < 0) {
            return BAD_VALUE;
        }
        int removed = 0;
        while (count(3) > total && next() != NONE) {
            int next = next();
            remove(next / 1000, next % 1000);
            removed++;
        }
        return removed;
    }

    int limitFor(int total) {
        if (total < 0) {
            return BAD_VALUE;
        }
        List<Change> kept = new ArrayList<>(changes);
        int answer = NONE;
        if (count(3) <= total || leftBy(1000, kept) <= total) {
            answer = 0;
            while (count(3) > total && leftBy(answer, kept) > total) {
                answer++;
            }
        }
        return answer;
    }

    /** How many vertices simplify() would leave; all is as before then. */
    private int leftBy(int limit, List<Change> kept) {
        simplify(limit);
        int left = count(3);
        for (Change change : changes.subList(kept.size(), changes.size())) {
            change.vertex.present = true;
        }
        changes = new ArrayList<>(kept);
        return left;
    }

    int undo() {
        while (changes.size() > 600) {
            changes.remove(0);
        }
        if (changes.isEmpty()) {
            return NONE;
        }
        Change latest = changes.remove(changes.size() - 1);
        latest.vertex.present = latest.wasPresent;
        return changes.size();
    }

    int refine() {
        int inserted = 0;
        for (int c = 0; c < outlines.size(); c++) {
            for (int i = 0; i < outlines.get(c).vertices.size(); i++) {
                inserted += insert(c, i) >= 0 ? 1 : 0;
            }
        }
        return inserted;
    }

    // ---- comparing

    private static boolean covered(List<Point> points, long px, long py) {
        int crossed = 0;
        for (int i = 0; i < points.size(); i++) {
            Point p = points.get(i);
            Point q = points.get((i + 1) % points.size());
            if (p.y > q.y) {
                Point kept = p;
                p = q;
                q = kept;
            }
            if (2 * p.y <= py && 2 * q.y > py) {
                long by = 2 * (q.y - p.y);
                long x = p.x * by + (py - 2 * p.y) * (q.x - p.x);
                crossed += 2 * x > px * by ? 1 : 0;
            }
        }
        return crossed % 2 == 1;
    }

    private static boolean isFar(int p) {
        return p < -10 || p > 40;
    }

    int covers(int contour, int px, int py) {
        if (contour < 0 || contour >= outlines.size()) {
            return NO_SUCH_CONTOUR;
        }
        if (isFar(px) || isFar(py)) {
            return BAD_VALUE;
        }
        return covered(outlines.get(contour).polygon(), px, py) ? 1 : 0;
    }

    int isCovered(int px, int py) {
        if (isFar(px) || isFar(py)) {
            return BAD_VALUE;
        }
        int covering = 0;
        for (int c = 0; c < outlines.size(); c++) {
            covering += covers(c, px, py);
        }
        return covering % 2;
    }

    int misfit() {
        if (threshold == 0) {
            return NOT_POSSIBLE;
        }
        int misfits = 0;
        for (int y = 0; y < height(); y++) {
            for (int x = 0; x < width(); x++) {
                boolean isCovered = isCovered(2 * x + 1, 2 * y + 1) == 1;
                misfits += levels[y][x] >= threshold && !isCovered || levels[y][x] < threshold && isCovered ? 1 : 0;
            }
        }
        return misfits;
    }

    int deviation(int contour, int part) {
        if (contour < 0 || contour >= outlines.size()) {
            return NO_SUCH_CONTOUR;
        }
        if (part < 0 || part > 1) {
            return BAD_VALUE;
        }
        long over = 0;
        long under = 1;
        Outline o = outlines.get(contour);
        for (Vertex v : o.vertices) {
            if (!v.present) {
                Point a = o.neighbour(v, -1).at;
                Point b = o.neighbour(v, 1).at;
                long top = Math.min(distance(v.at, a), distance(v.at, b));
                long bottom = 1;
                // the foot is between the ends if neither angle at them is obtuse
                if (!a.equals(b) && distance(v.at, a) <= distance(v.at, b) + distance(a, b)
                        && distance(v.at, b) <= distance(v.at, a) + distance(a, b)) {
                    top = size(a, v.at, b) * size(a, v.at, b);
                    bottom = distance(a, b);
                }
                if (top * under > over * bottom) {
                    over = top;
                    under = bottom;
                }
            }
        }
        for (long d = under; d >= 2; d--) {
            if (over % d == 0 && under % d == 0) {
                over /= d;
                under /= d;
            }
        }
        return (int) (part == 0 ? over : under);
    }
}
