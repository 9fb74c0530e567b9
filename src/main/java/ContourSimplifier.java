import java.util.Arrays;

/**
 * A tracer and simplifier of contours in a raster picture.
 *
 * <p>All rows are made with the object and used again, so that no call makes an object of its own.
 */
public final class ContourSimplifier {
    public static final int NO_SUCH_CONTOUR = -1001;
    public static final int NO_SUCH_VERTEX = -1002;
    public static final int BAD_VALUE = -1003;
    public static final int NOT_POSSIBLE = -1004;
    public static final int FULL = -1005;
    public static final int NONE = -1006;

    private static final int MIN_SIDE = 3;
    private static final int MAX_WIDTH = 16;
    private static final int MAX_HEIGHT = 12;
    private static final int FIRST_SIDE = 8;
    private static final int MAX_PIXELS = MAX_WIDTH * MAX_HEIGHT;
    private static final int MAX_LEVEL = 9;
    private static final int MAX_TEXT = 200;
    private static final int TEXT_FAULT = -100;

    private static final int CORNERS_IN_ROW = MAX_WIDTH + 1;
    private static final int MAX_CORNERS = CORNERS_IN_ROW * (MAX_HEIGHT + 1);
    /** At most two arrows begin at a corner, so no more vertices can be there. */
    private static final int MAX_VERTICES = 2 * MAX_CORNERS;
    private static final int MIN_VERTICES_TRACED = 4;
    private static final int MAX_CONTOURS = MAX_VERTICES / MIN_VERTICES_TRACED;
    /** A polygon with fewer present vertices would fall to a line if it lost one. */
    private static final int MIN_VERTICES_TO_REMOVE = 4;

    private static final int MAX_LIMIT = 1000;
    private static final int MAX_STEPS = 600;
    private static final int CONTOUR_FACTOR = 1000;
    private static final int MIN_POINT = -10;
    private static final int MAX_POINT = 40;

    /** Stands inside for a contour or vertex that is not there; NONE is what callers are told. */
    private static final int ABSENT = -1;

    private static final int RIGHT = 0;
    private static final int DIRECTIONS = 4;
    private static final int[] STEP_X = {1, 0, -1, 0};
    private static final int[] STEP_Y = {0, 1, 0, -1};
    /** The pixel at the right hand of an arrow, as seen from the corner where the arrow begins. */
    private static final int[] HAND_X = {0, -1, -1, 0};
    private static final int[] HAND_Y = {0, 0, -1, -1};

    private final Picture picture = new Picture();
    private final Text text = new Text();
    private final Reader reader = new Reader();
    private final Contours contours = new Contours();
    private final Tracer tracer = new Tracer(picture, contours);
    private final Simplifier simplifier = new Simplifier(contours);
    private final Comparison comparison = new Comparison(picture, contours);

    public ContourSimplifier() {
        picture.start(FIRST_SIDE, FIRST_SIDE);
    }

    // ---- the picture

    public int reset(int width, int height) {
        if (!isWithin(width, MIN_SIDE, MAX_WIDTH) || !isWithin(height, MIN_SIDE, MAX_HEIGHT)) {
            return BAD_VALUE;
        }
        picture.start(width, height);
        dropContours();
        return width * height;
    }

    public int set(int x, int y, int level) {
        if (!picture.has(x, y) || !isLevel(level)) {
            return BAD_VALUE;
        }
        int previous = picture.at(x, y);
        picture.put(x, y, level);
        return previous;
    }

    public int fill(int x, int y, int w, int h, int level) {
        if (!isLevel(level) || !picture.hasRectangle(x, y, w, h)) {
            return BAD_VALUE;
        }
        return picture.putRectangle(x, y, w, h, level);
    }

    public int flood(int x, int y, int level) {
        if (!picture.has(x, y) || !isLevel(level)) {
            return BAD_VALUE;
        }
        return picture.spread(x, y, level);
    }

    public int level(int x, int y) {
        return picture.has(x, y) ? picture.at(x, y) : BAD_VALUE;
    }

    public int type(char character) {
        return text.append(character) ? text.length : FULL;
    }

    public int clearText() {
        int length = text.length;
        text.length = 0;
        return length;
    }

    public int readPicture() {
        int fault = reader.faultIn(text, picture);
        if (fault != ABSENT) {
            return TEXT_FAULT - fault;
        }
        dropContours();
        return picture.replaceBy(reader.levels);
    }

    // ---- contours

    public int trace(int threshold, int connectivity) {
        if (!isWithin(threshold, 1, MAX_LEVEL) || (connectivity != 4 && connectivity != 8)) {
            return BAD_VALUE;
        }
        dropContours();
        tracer.traceAll(threshold, connectivity);
        return contours.contourCount;
    }

    public int count(int what) {
        switch (what) {
            case 0:
                return contours.contourCount;
            case 1:
                return contours.contourCount - contours.holeCount();
            case 2:
                return contours.holeCount();
            case 3:
                return contours.presentCount;
            case 4:
                return contours.vertexCount;
            case 5:
                return simplifier.steps.size;
            case 6:
                return picture.width;
            case 7:
                return picture.height;
            case 8:
                return contours.threshold;
            case 9:
                return text.length;
            default:
                return BAD_VALUE;
        }
    }

    public int contour(int contour, int what) {
        if (!contours.has(contour)) {
            return NO_SUCH_CONTOUR;
        }
        switch (what) {
            case 0:
                return contours.isHole(contour) ? 1 : 0;
            case 1:
                return contours.parents[contour] == ABSENT ? NONE : contours.parents[contour];
            case 2:
                return contours.depthOf(contour);
            case 3:
                return contours.sizeOf(contour);
            case 4:
                return contours.presentIn[contour];
            case 5:
                return contours.tracedAreas[contour];
            case 6:
                return contours.doubledArea(contour);
            case 7:
                return contours.arrowCount(contour);
            case 8:
                return contours.childCount(contour);
            default:
                return BAD_VALUE;
        }
    }

    public int vertex(int contour, int vertex, int what) {
        int fault = contours.faultOf(contour, vertex);
        if (fault != 0) {
            return fault;
        }
        int v = contours.starts[contour] + vertex;
        switch (what) {
            case 0:
                return contours.xs[v];
            case 1:
                return contours.ys[v];
            case 2:
                return contours.present[v] ? 1 : 0;
            case 3:
                return simplifier.triangleSize(v);
            case 4:
                return simplifier.canChange(v) ? 1 : 0;
            default:
                return BAD_VALUE;
        }
    }

    public int bySize(int place) {
        if (place < 0) {
            return BAD_VALUE;
        }
        int found = contours.atPlaceBySize(place);
        return found == ABSENT ? NONE : found;
    }

    public int chainCode(int contour, int i) {
        if (!contours.has(contour)) {
            return NO_SUCH_CONTOUR;
        }
        if (i < -1) {
            return BAD_VALUE;
        }
        if (i == -1) {
            return contours.chainLength(contour);
        }
        int character = contours.chainCharacter(contour, i);
        return character == ABSENT ? NONE : character;
    }

    // ---- simplifying

    public int next() {
        int v = simplifier.nextVertex();
        if (v == ABSENT) {
            return NONE;
        }
        int contour = contours.owners[v];
        return CONTOUR_FACTOR * contour + v - contours.starts[contour];
    }

    public int remove(int contour, int vertex) {
        int fault = contours.faultOf(contour, vertex);
        if (fault != 0) {
            return fault;
        }
        int v = contours.starts[contour] + vertex;
        boolean isPossible = contours.present[v] && simplifier.canBeRemoved(v);
        return isPossible ? simplifier.takeStep(v) : NOT_POSSIBLE;
    }

    public int insert(int contour, int vertex) {
        int fault = contours.faultOf(contour, vertex);
        if (fault != 0) {
            return fault;
        }
        int v = contours.starts[contour] + vertex;
        boolean isPossible = !contours.present[v] && simplifier.canBeInserted(v);
        return isPossible ? simplifier.takeStep(v) : NOT_POSSIBLE;
    }

    public int simplify(int limit) {
        if (!isWithin(limit, 0, MAX_LIMIT)) {
            return BAD_VALUE;
        }
        return simplifier.removeWhile(limit, 0);
    }

    public int reduce(int total) {
        if (total < 0) {
            return BAD_VALUE;
        }
        return simplifier.removeWhile(Integer.MAX_VALUE, total);
    }

    public int limitFor(int total) {
        if (total < 0) {
            return BAD_VALUE;
        }
        int limit = simplifier.leastLimit(total);
        return limit == ABSENT ? NONE : limit;
    }

    public int undo() {
        return simplifier.takeBack() ? simplifier.steps.size : NONE;
    }

    public int refine() {
        return simplifier.insertAll();
    }

    // ---- comparing

    public int covers(int contour, int px, int py) {
        if (!contours.has(contour)) {
            return NO_SUCH_CONTOUR;
        }
        if (!isWithin(px, MIN_POINT, MAX_POINT) || !isWithin(py, MIN_POINT, MAX_POINT)) {
            return BAD_VALUE;
        }
        return contours.isPointIn(contour, px, py) ? 1 : 0;
    }

    public int isCovered(int px, int py) {
        if (!isWithin(px, MIN_POINT, MAX_POINT) || !isWithin(py, MIN_POINT, MAX_POINT)) {
            return BAD_VALUE;
        }
        return comparison.isPointInPolygons(px, py) ? 1 : 0;
    }

    public int misfit() {
        return contours.threshold == 0 ? NOT_POSSIBLE : comparison.misfitCount();
    }

    public int deviation(int contour, int part) {
        if (!contours.has(contour)) {
            return NO_SUCH_CONTOUR;
        }
        if (part != 0 && part != 1) {
            return BAD_VALUE;
        }
        comparison.findFarthest(contour);
        return part == 0 ? comparison.over : comparison.under;
    }

    private void dropContours() {
        contours.clear();
        simplifier.steps.clear();
    }

    private static boolean isWithin(int value, int least, int greatest) {
        return value >= least && value <= greatest;
    }

    private static boolean isLevel(int level) {
        return isWithin(level, 0, MAX_LEVEL);
    }

    /** The pixels; rows lie MAX_WIDTH apart, whatever the width is. */
    private static final class Picture {
        private final int[] levels = new int[MAX_PIXELS];
        private final int[] reached = new int[MAX_PIXELS];
        private int reachedCount;
        private int width;
        private int height;

        void start(int newWidth, int newHeight) {
            width = newWidth;
            height = newHeight;
            Arrays.fill(levels, 0);
        }

        boolean has(int x, int y) {
            return x >= 0 && x < width && y >= 0 && y < height;
        }

        boolean hasRectangle(int x, int y, int w, int h) {
            // a sum of x and w could wrap around, a difference of numbers in range cannot
            return has(x, y) && isWithin(w, 1, width - x) && isWithin(h, 1, height - y);
        }

        /** The level of a pixel; beyond the picture 0, which no threshold reaches. */
        int at(int x, int y) {
            return has(x, y) ? levels[y * MAX_WIDTH + x] : 0;
        }

        /** Answers how many pixels change: 1 or 0. */
        int put(int x, int y, int level) {
            if (!has(x, y) || at(x, y) == level) {
                return 0;
            }
            levels[y * MAX_WIDTH + x] = level;
            return 1;
        }

        int putRectangle(int x, int y, int w, int h, int level) {
            int changed = 0;
            for (int row = y; row < y + h; row++) {
                for (int column = x; column < x + w; column++) {
                    changed += put(column, row, level);
                }
            }
            return changed;
        }

        int spread(int x, int y, int level) {
            int old = at(x, y);
            reachedCount = 0;
            if (old == level) {
                return 0;
            }
            reach(x, y, old, level);
            for (int i = 0; i < reachedCount && i < MAX_PIXELS; i++) {
                int column = reached[i] % MAX_WIDTH;
                int row = reached[i] / MAX_WIDTH;
                for (int d = 0; d < DIRECTIONS; d++) {
                    reach(column + STEP_X[d], row + STEP_Y[d], old, level);
                }
            }
            return reachedCount;
        }

        private void reach(int x, int y, int old, int level) {
            if (has(x, y) && at(x, y) == old && reachedCount < MAX_PIXELS) {
                // the new level also marks the pixel as reached
                put(x, y, level);
                reached[reachedCount] = y * MAX_WIDTH + x;
                reachedCount++;
            }
        }

        int replaceBy(int[] newLevels) {
            int changed = 0;
            for (int y = 0; y < height; y++) {
                for (int x = 0; x < width; x++) {
                    int place = y * MAX_WIDTH + x;
                    if (place < newLevels.length) {
                        changed += put(x, y, newLevels[place]);
                    }
                }
            }
            return changed;
        }
    }

    private static final class Text {
        private final char[] characters = new char[MAX_TEXT];
        private int length;

        boolean append(char character) {
            if (length >= MAX_TEXT) {
                return false;
            }
            characters[length] = character;
            length++;
            return true;
        }
    }

    /** Reads a text into levels of its own, so that a fault leaves the picture as it is. */
    private static final class Reader {
        private final int[] levels = new int[MAX_PIXELS];
        private int width;
        private int height;
        private int row;
        private int column;
        /** The number that stands before a run; 0 if none does, as no number begins with 0. */
        private int number;

        /** The place of the fault in a text, ABSENT if it has none. */
        int faultIn(Text text, Picture picture) {
            begin(picture.width, picture.height);
            for (int i = 0; i < text.length && i < MAX_TEXT; i++) {
                if (!accepts(text.characters[i])) {
                    return i;
                }
            }
            return number > 0 ? text.length : ABSENT;
        }

        private void begin(int newWidth, int newHeight) {
            width = newWidth;
            height = newHeight;
            row = 0;
            column = 0;
            number = 0;
            Arrays.fill(levels, 0);
        }

        private boolean accepts(char character) {
            if (character == '/') {
                return acceptsRowEnd();
            }
            if (character >= '0' && character <= '9') {
                return acceptsDigit(character - '0');
            }
            return character >= 'a' && character <= 'j' && acceptsRun(character - 'a');
        }

        private boolean acceptsRowEnd() {
            if (number > 0 || row + 1 >= height) {
                return false;
            }
            row++;
            column = 0;
            return true;
        }

        private boolean acceptsDigit(int digit) {
            int longer = 10 * number + digit;
            if (!isWithin(longer, 1, width - column)) {
                return false;
            }
            number = longer;
            return true;
        }

        private boolean acceptsRun(int level) {
            int length = Math.max(number, 1);
            if (length > width - column) {
                return false;
            }
            int begin = row * MAX_WIDTH + column;
            for (int i = begin; i < begin + length && i < MAX_PIXELS; i++) {
                levels[i] = level;
            }
            column += length;
            number = 0;
            return true;
        }
    }

    /**
     * The contours and which of their vertices are present. The vertices of all contours stand in
     * one row, contour behind contour; a vertex is known by its place in this row.
     */
    private static final class Contours {
        private int threshold;
        private int contourCount;
        private int vertexCount;
        private int presentCount;
        /** Where the vertices of a contour begin; those of the contour before it end there. */
        private final int[] starts = new int[MAX_CONTOURS + 1];
        private final int[] presentIn = new int[MAX_CONTOURS];
        private final int[] parents = new int[MAX_CONTOURS];
        private final int[] tracedAreas = new int[MAX_CONTOURS];
        private final int[] sizes = new int[MAX_CONTOURS];
        private final int[] owners = new int[MAX_VERTICES];
        private final int[] xs = new int[MAX_VERTICES];
        private final int[] ys = new int[MAX_VERTICES];
        private final boolean[] present = new boolean[MAX_VERTICES];
        /** How many present vertices are at a corner: it spares a look at all vertices. */
        private final int[] presentAt = new int[MAX_CORNERS];

        void clear() {
            threshold = 0;
            contourCount = 0;
            vertexCount = 0;
            presentCount = 0;
            Arrays.fill(presentAt, 0);
        }

        boolean beginContour() {
            if (contourCount >= MAX_CONTOURS) {
                return false;
            }
            starts[contourCount] = vertexCount;
            starts[contourCount + 1] = vertexCount;
            presentIn[contourCount] = 0;
            parents[contourCount] = ABSENT;
            contourCount++;
            return true;
        }

        void addVertex(int x, int y) {
            if (contourCount == 0 || vertexCount >= MAX_VERTICES) {
                return;
            }
            int v = vertexCount;
            xs[v] = x;
            ys[v] = y;
            owners[v] = contourCount - 1;
            present[v] = false;
            vertexCount++;
            starts[contourCount] = vertexCount;
            turn(v);
        }

        /** Removes a vertex that is present, puts back one that is not. */
        void turn(int v) {
            int change = present[v] ? -1 : 1;
            present[v] = !present[v];
            presentCount += change;
            presentIn[owners[v]] += change;
            presentAt[ys[v] * CORNERS_IN_ROW + xs[v]] += change;
        }

        boolean has(int contour) {
            return isWithin(contour, 0, contourCount - 1);
        }

        /** The error for a contour and the number of a vertex in it, 0 if there is none. */
        int faultOf(int contour, int vertex) {
            if (!has(contour)) {
                return NO_SUCH_CONTOUR;
            }
            return isWithin(vertex, 0, sizeOf(contour) - 1) ? 0 : NO_SUCH_VERTEX;
        }

        int sizeOf(int contour) {
            return starts[contour + 1] - starts[contour];
        }

        boolean isHole(int contour) {
            return tracedAreas[contour] <= 0;
        }

        int holeCount() {
            int found = 0;
            for (int c = 0; c < contourCount; c++) {
                found += isHole(c) ? 1 : 0;
            }
            return found;
        }

        int childCount(int contour) {
            int found = 0;
            for (int c = 0; c < contourCount; c++) {
                found += parents[c] == contour ? 1 : 0;
            }
            return found;
        }

        int depthOf(int contour) {
            int depth = 0;
            int parent = parents[contour];
            for (int i = 0; i < MAX_CONTOURS && has(parent); i++) {
                depth++;
                parent = parents[parent];
            }
            return depth;
        }

        int presentBefore(int v) {
            int start = starts[owners[v]];
            int end = starts[owners[v] + 1];
            int w = v;
            for (int i = start; i < end; i++) {
                w = w > start ? w - 1 : end - 1;
                if (present[w]) {
                    return w;
                }
            }
            return v;
        }

        int presentAfter(int v) {
            int w = v;
            for (int i = starts[owners[v]]; i < starts[owners[v] + 1]; i++) {
                w = tracedAfter(w);
                if (present[w]) {
                    return w;
                }
            }
            return v;
        }

        private int tracedAfter(int v) {
            return v + 1 < starts[owners[v] + 1] ? v + 1 : starts[owners[v]];
        }

        /** The doubled area of the polygon; right after tracing also that of the contour. */
        int doubledArea(int contour) {
            int area = 0;
            for (int v = starts[contour]; v < starts[contour + 1]; v++) {
                if (present[v]) {
                    int w = presentAfter(v);
                    area += xs[v] * ys[w] - xs[w] * ys[v];
                }
            }
            return area;
        }

        int atPlaceBySize(int place) {
            for (int c = 0; c < contourCount; c++) {
                sizes[c] = Math.abs(doubledArea(c));
            }
            for (int c = 0; c < contourCount; c++) {
                if (placeBySize(c) == place) {
                    return c;
                }
            }
            return ABSENT;
        }

        private int placeBySize(int contour) {
            int ahead = 0;
            for (int c = 0; c < contourCount; c++) {
                boolean isAhead = sizes[c] > sizes[contour]
                        || (sizes[c] == sizes[contour] && c < contour);
                ahead += isAhead ? 1 : 0;
            }
            return ahead;
        }

        /** The number of arrows from a vertex to the next one, as they were traced. */
        private int wayLength(int v) {
            int w = tracedAfter(v);
            return Math.abs(xs[w] - xs[v]) + Math.abs(ys[w] - ys[v]);
        }

        int arrowCount(int contour) {
            int arrows = 0;
            for (int v = starts[contour]; v < starts[contour + 1]; v++) {
                arrows += wayLength(v);
            }
            return arrows;
        }

        /** A letter and one or two digits, as no way is longer than the picture. */
        private int chainPartLength(int v) {
            return wayLength(v) < 10 ? 2 : 3;
        }

        int chainLength(int contour) {
            int length = 0;
            for (int v = starts[contour]; v < starts[contour + 1]; v++) {
                length += chainPartLength(v);
            }
            return length;
        }

        int chainCharacter(int contour, int i) {
            int left = i;
            for (int v = starts[contour]; v < starts[contour + 1]; v++) {
                int partLength = chainPartLength(v);
                if (left < partLength) {
                    return left == 0 ? directionLetter(v) : wayDigit(v, partLength - 1 - left);
                }
                left -= partLength;
            }
            return ABSENT;
        }

        private int directionLetter(int v) {
            int w = tracedAfter(v);
            if (ys[w] == ys[v]) {
                return xs[w] > xs[v] ? 'R' : 'L';
            }
            return ys[w] > ys[v] ? 'D' : 'U';
        }

        private int wayDigit(int v, int digitsBehind) {
            int length = wayLength(v);
            return '0' + (digitsBehind == 0 ? length % 10 : length / 10);
        }

        boolean isPointIn(int contour, int px, int py) {
            boolean isIn = false;
            for (int v = starts[contour]; v < starts[contour + 1]; v++) {
                if (present[v] && isCrossed(v, presentAfter(v), px, py)) {
                    isIn = !isIn;
                }
            }
            return isIn;
        }

        /** Whether the side from v to w is crossed to the right of the point (px / 2, py / 2). */
        private boolean isCrossed(int v, int w, int px, int py) {
            boolean beginsAbove = 2 * ys[v] <= py;
            boolean endsAbove = 2 * ys[w] <= py;
            if (beginsAbove == endsAbove) {
                return false;
            }
            // both sides of the comparison are multiplied by the height, so that none is divided
            int height = ys[w] - ys[v];
            int place = (py - 2 * ys[v]) * (xs[w] - xs[v]);
            int point = (px - 2 * xs[v]) * height;
            return height > 0 ? place > point : place < point;
        }
    }

    private static final class Tracer {
        private final Picture picture;
        private final Contours contours;
        /** The pixels whose upper side, an arrow to the right, belongs to a contour already. */
        private final boolean[] passed = new boolean[MAX_PIXELS];
        private int threshold;
        /** By how many right turns the direction changes where two arrows begin at a corner. */
        private int preferredTurn;

        Tracer(Picture picture, Contours contours) {
            this.picture = picture;
            this.contours = contours;
        }

        void traceAll(int newThreshold, int connectivity) {
            threshold = newThreshold;
            preferredTurn = connectivity == 4 ? 1 : 3;
            contours.threshold = newThreshold;
            for (int i = 0; i < MAX_PIXELS; i++) {
                passed[i] = false;
            }
            for (int y = 0; y < picture.height; y++) {
                for (int x = 0; x < picture.width; x++) {
                    if (hasArrow(x, y, RIGHT) && !isPassed(x, y)) {
                        traceFrom(x, y);
                    }
                }
            }
            for (int c = 0; c < contours.contourCount; c++) {
                contours.tracedAreas[c] = contours.doubledArea(c);
            }
            for (int c = 0; c < contours.contourCount; c++) {
                contours.parents[c] = parentOf(c);
            }
        }

        private boolean isPassed(int x, int y) {
            return picture.has(x, y) && passed[y * MAX_WIDTH + x];
        }

        private void pass(int x, int y) {
            if (picture.has(x, y)) {
                passed[y * MAX_WIDTH + x] = true;
            }
        }

        private void traceFrom(int startX, int startY) {
            if (!contours.beginContour()) {
                return;
            }
            int x = startX;
            int y = startY;
            int direction = RIGHT;
            // no arrow to the right leads to the first one, so a vertex is there
            boolean isTurn = true;
            for (int i = 0; i < MAX_VERTICES; i++) {
                if (isTurn) {
                    contours.addVertex(x, y);
                }
                if (direction == RIGHT) {
                    pass(x, y);
                }
                x += STEP_X[direction];
                y += STEP_Y[direction];
                int following = directionFrom(x, y, direction);
                isTurn = following != direction;
                direction = following;
                if (x == startX && y == startY && direction == RIGHT) {
                    return;
                }
            }
        }

        private int directionFrom(int x, int y, int direction) {
            int preferred = (direction + preferredTurn) % DIRECTIONS;
            if (hasArrow(x, y, preferred)) {
                return preferred;
            }
            if (hasArrow(x, y, direction)) {
                return direction;
            }
            return (direction + DIRECTIONS - preferredTurn) % DIRECTIONS;
        }

        private boolean hasArrow(int x, int y, int direction) {
            // the pixel at the left hand is the one at the right hand of a left turn
            int left = (direction + 3) % DIRECTIONS;
            return picture.at(x + HAND_X[direction], y + HAND_Y[direction]) >= threshold
                    && picture.at(x + HAND_X[left], y + HAND_Y[left]) < threshold;
        }

        private int parentOf(int contour) {
            int v = contours.starts[contour];
            int px = 2 * contours.xs[v] + 1;
            int py = 2 * contours.ys[v] + (contours.isHole(contour) ? -1 : 1);
            int parent = ABSENT;
            int leastArea = Integer.MAX_VALUE;
            for (int c = 0; c < contours.contourCount; c++) {
                int area = Math.abs(contours.tracedAreas[c]);
                if (c != contour && area < leastArea && contours.isPointIn(c, px, py)) {
                    parent = c;
                    leastArea = area;
                }
            }
            return parent;
        }
    }

    /** The steps as a ring of vertices: to take a step back is to turn its vertex again. */
    private static final class Steps {
        private final int[] vertices = new int[MAX_STEPS];
        private int end;
        private int size;

        void clear() {
            end = 0;
            size = 0;
        }

        void add(int v) {
            vertices[end] = v;
            end = end + 1 < MAX_STEPS ? end + 1 : 0;
            size = Math.min(size + 1, MAX_STEPS);
        }

        /** The vertex of the latest step, which is forgotten; ABSENT if there is no step. */
        int takeLatest() {
            if (size == 0) {
                return ABSENT;
            }
            end = end > 0 ? end - 1 : MAX_STEPS - 1;
            size--;
            return vertices[end];
        }
    }

    private static final class Simplifier {
        private final Contours contours;
        private final Plane plane;
        private final Steps steps = new Steps();
        /** The vertices that leastLimit() removes for a trial. */
        private final int[] tried = new int[MAX_VERTICES];

        Simplifier(Contours contours) {
            this.contours = contours;
            this.plane = new Plane(contours);
        }

        int triangleSize(int v) {
            return plane.triangleSize(contours.presentBefore(v), v, contours.presentAfter(v));
        }

        /** Removes or inserts a vertex, and answers the size of its triangle. */
        int takeStep(int v) {
            int size = triangleSize(v);
            contours.turn(v);
            steps.add(v);
            return size;
        }

        boolean takeBack() {
            int v = steps.takeLatest();
            if (v == ABSENT) {
                return false;
            }
            contours.turn(v);
            return true;
        }

        boolean canChange(int v) {
            return contours.present[v] ? canBeRemoved(v) : canBeInserted(v);
        }

        boolean canBeRemoved(int v) {
            if (contours.presentIn[contours.owners[v]] < MIN_VERTICES_TO_REMOVE) {
                return false;
            }
            int a = contours.presentBefore(v);
            int b = contours.presentAfter(v);
            return plane.isFree(a, v, b) && !hasSideBetween(a, b);
        }

        private boolean hasSideBetween(int a, int b) {
            for (int v = 0; v < contours.vertexCount; v++) {
                if (contours.present[v]) {
                    boolean fromA = plane.isSamePlace(v, a);
                    boolean fromB = plane.isSamePlace(v, b);
                    if (fromA && plane.isSamePlace(contours.presentAfter(v), b)
                            || fromB && plane.isSamePlace(contours.presentAfter(v), a)) {
                        return true;
                    }
                }
            }
            return false;
        }

        boolean canBeInserted(int v) {
            int a = contours.presentBefore(v);
            int b = contours.presentAfter(v);
            if (plane.triangleSize(a, v, b) == 0 && !plane.isOnSegment(v, a, b)) {
                return false;
            }
            return plane.isFree(a, v, b) && !isSideInWay(a, v, b);
        }

        private boolean isSideInWay(int a, int v, int b) {
            for (int p = 0; p < contours.vertexCount; p++) {
                // the side that begins at a is the one that v would replace
                if (contours.present[p] && p != a) {
                    int q = contours.presentAfter(p);
                    if (plane.meetBesides(p, q, a, v, b) || plane.meetBesides(p, q, b, v, a)) {
                        return true;
                    }
                }
            }
            return false;
        }

        int nextVertex() {
            int found = ABSENT;
            int leastSize = Integer.MAX_VALUE;
            for (int v = 0; v < contours.vertexCount; v++) {
                if (contours.present[v]) {
                    int size = triangleSize(v);
                    if (size < leastSize && canBeRemoved(v)) {
                        found = v;
                        leastSize = size;
                    }
                }
            }
            return found;
        }

        /** Removes while more than a total are present and the sizes are at most a limit. */
        int removeWhile(int limit, int total) {
            int removed = 0;
            for (int i = 0; i < MAX_VERTICES && contours.presentCount > total; i++) {
                int v = nextVertex();
                if (v == ABSENT || triangleSize(v) > limit) {
                    break;
                }
                takeStep(v);
                removed++;
            }
            return removed;
        }

        int leastLimit(int total) {
            int limit = 0;
            int triedCount = 0;
            // the order of removals is the same for every limit, so one trial is enough
            for (int i = 0; i < MAX_VERTICES && contours.presentCount > total; i++) {
                int v = nextVertex();
                if (v == ABSENT) {
                    limit = ABSENT;
                    break;
                }
                limit = Math.max(limit, triangleSize(v));
                contours.turn(v);
                tried[i] = v;
                triedCount++;
            }
            for (int i = 0; i < triedCount; i++) {
                contours.turn(tried[i]);
            }
            return limit;
        }

        int insertAll() {
            int inserted = 0;
            for (int v = 0; v < contours.vertexCount; v++) {
                if (!contours.present[v] && canBeInserted(v)) {
                    takeStep(v);
                    inserted++;
                }
            }
            return inserted;
        }
    }

    /** Triangles and line segments between the places of vertices. */
    private static final class Plane {
        private final Contours contours;

        Plane(Contours contours) {
            this.contours = contours;
        }

        /** Greater than 0 on one side of the line from a to b, less on the other, 0 on it. */
        private int sideOf(int a, int b, int x, int y) {
            int ax = contours.xs[a];
            int ay = contours.ys[a];
            return (contours.xs[b] - ax) * (y - ay) - (contours.ys[b] - ay) * (x - ax);
        }

        private int sideOf(int a, int b, int v) {
            return sideOf(a, b, contours.xs[v], contours.ys[v]);
        }

        int triangleSize(int a, int v, int b) {
            return Math.abs(sideOf(a, v, b));
        }

        boolean isSamePlace(int v, int w) {
            return isAt(v, contours.xs[w], contours.ys[w]);
        }

        private boolean isAt(int v, int x, int y) {
            return contours.xs[v] == x && contours.ys[v] == y;
        }

        boolean isFree(int a, int v, int b) {
            int left = Math.min(contours.xs[v], Math.min(contours.xs[a], contours.xs[b]));
            int right = Math.max(contours.xs[v], Math.max(contours.xs[a], contours.xs[b]));
            int top = Math.min(contours.ys[v], Math.min(contours.ys[a], contours.ys[b]));
            int bottom = Math.max(contours.ys[v], Math.max(contours.ys[a], contours.ys[b]));
            for (int y = top; y <= bottom; y++) {
                for (int x = left; x <= right; x++) {
                    if (isOtherAt(v, x, y) && !isAt(a, x, y) && !isAt(b, x, y)
                            && isInTriangle(a, v, b, x, y)) {
                        return false;
                    }
                }
            }
            return true;
        }

        /** Whether a present vertex other than v is at a corner. */
        private boolean isOtherAt(int v, int x, int y) {
            int own = contours.present[v] && isAt(v, x, y) ? 1 : 0;
            return contours.presentAt[y * CORNERS_IN_ROW + x] > own;
        }

        /**
         * Asked only for points between the least and greatest coordinates of the triangle. So it
         * is right for one of size 0 too: off its line the three numbers, whose sum is 0 then, have
         * both signs.
         */
        private boolean isInTriangle(int a, int v, int b, int x, int y) {
            int first = sideOf(a, v, x, y);
            int second = sideOf(v, b, x, y);
            int third = sideOf(b, a, x, y);
            boolean isSomeLess = first < 0 || second < 0 || third < 0;
            boolean isSomeGreater = first > 0 || second > 0 || third > 0;
            return !(isSomeLess && isSomeGreater);
        }

        boolean isOnSegment(int v, int a, int b) {
            int x = contours.xs[v];
            int y = contours.ys[v];
            return sideOf(a, b, v) == 0
                    && x >= Math.min(contours.xs[a], contours.xs[b])
                    && x <= Math.max(contours.xs[a], contours.xs[b])
                    && y >= Math.min(contours.ys[a], contours.ys[b])
                    && y <= Math.max(contours.ys[a], contours.ys[b]);
        }

        /**
         * Whether the segments from p to q and from a to v have a point in common, except at the
         * places of a and b.
         */
        boolean meetBesides(int p, int q, int a, int v, int b) {
            int sideA = sideOf(p, q, a);
            int sideV = sideOf(p, q, v);
            int sideP = sideOf(a, v, p);
            int sideQ = sideOf(a, v, q);
            if (sideA == 0 && sideV == 0 && sideP == 0 && sideQ == 0) {
                return meetOnLine(p, q, a, v, b);
            }
            if (sideA * sideV > 0 || sideP * sideQ > 0) {
                return false;
            }
            // they have just one point in common: that of a or b, if it is on both lines
            boolean isAtB = sideOf(p, q, b) == 0 && sideOf(a, v, b) == 0;
            return sideA != 0 && !isAtB;
        }

        private boolean meetOnLine(int p, int q, int a, int v, int b) {
            int begin = Math.max(Math.min(order(p), order(q)), Math.min(order(a), order(v)));
            int end = Math.min(Math.max(order(p), order(q)), Math.max(order(a), order(v)));
            return begin < end || (begin == end && begin != order(a) && begin != order(b));
        }

        /** A number for a place; on each line it grows, or falls, from one end to the other. */
        private int order(int v) {
            return contours.ys[v] * CORNERS_IN_ROW + contours.xs[v];
        }
    }

    private static final class Comparison {
        private final Picture picture;
        private final Contours contours;
        /** The greatest squared distance, over / under. */
        private int over;
        private int under;

        Comparison(Picture picture, Contours contours) {
            this.picture = picture;
            this.contours = contours;
        }

        boolean isPointInPolygons(int px, int py) {
            boolean isIn = false;
            for (int c = 0; c < contours.contourCount; c++) {
                if (contours.isPointIn(c, px, py)) {
                    isIn = !isIn;
                }
            }
            return isIn;
        }

        int misfitCount() {
            int misfits = 0;
            for (int y = 0; y < picture.height; y++) {
                for (int x = 0; x < picture.width; x++) {
                    boolean isInside = picture.at(x, y) >= contours.threshold;
                    misfits += isInside != isPointInPolygons(2 * x + 1, 2 * y + 1) ? 1 : 0;
                }
            }
            return misfits;
        }

        void findFarthest(int contour) {
            over = 0;
            under = 1;
            for (int v = contours.starts[contour]; v < contours.starts[contour + 1]; v++) {
                if (!contours.present[v]) {
                    measure(v, contours.presentBefore(v), contours.presentAfter(v));
                }
            }
            int divisor = commonDivisor(over, under);
            if (divisor > 0) {
                over = over / divisor;
                under = under / divisor;
            }
        }

        private void measure(int v, int a, int b) {
            int sideX = contours.xs[b] - contours.xs[a];
            int sideY = contours.ys[b] - contours.ys[a];
            int wayX = contours.xs[v] - contours.xs[a];
            int wayY = contours.ys[v] - contours.ys[a];
            int along = wayX * sideX + wayY * sideY;
            int length = sideX * sideX + sideY * sideY;
            if (along <= 0) {
                keepGreater(wayX * wayX + wayY * wayY, 1);
            } else if (along >= length) {
                int restX = wayX - sideX;
                int restY = wayY - sideY;
                keepGreater(restX * restX + restY * restY, 1);
            } else {
                int across = wayX * sideY - wayY * sideX;
                keepGreater(across * across, length);
            }
        }

        private void keepGreater(int newOver, int newUnder) {
            if (newOver * under > over * newUnder) {
                over = newOver;
                under = newUnder;
            }
        }

        private static int commonDivisor(int first, int second) {
            int greater = first;
            int less = second;
            // Euclid's rests halve in two rounds, so an int needs fewer than 64
            for (int i = 0; i < 64 && less != 0; i++) {
                int rest = greater % less;
                greater = less;
                less = rest;
            }
            return greater;
        }
    }
}
