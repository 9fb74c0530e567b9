/** Promises 1 to 9: the picture and its text. */
public final class PictureTest {
    private static final int BAD = ContourSimplifier.BAD_VALUE;

    public static void main(String[] args) {
        newObject();
        reset();
        set();
        fill();
        flood();
        level();
        typeAndClear();
        readFaultless();
        readFaults();
        readReplaces();
        Check.end();
    }

    private static void newObject() {
        ContourSimplifier s = new ContourSimplifier();
        Check.due("1 width", s.count(6), 8);
        Check.due("1 height", s.count(7), 8);
        for (int what : new int[] {0, 1, 2, 3, 4, 5, 8, 9}) {
            Check.due("1 count " + what, s.count(what), 0);
        }
        int sum = 0;
        for (int y = 0; y < 8; y++) {
            for (int x = 0; x < 8; x++) {
                sum += Math.abs(s.level(x, y));
            }
        }
        Check.due("1 sum of levels", sum, 0);
        Check.due("1 clearText", s.clearText(), 0);
        Check.due("1 readPicture of no text", s.readPicture(), 0);
        ContourSimplifier other = new ContourSimplifier();
        other.set(1, 1, 5);
        Check.due("1 objects are apart", s.level(1, 1), 0);
    }

    private static void reset() {
        int[][] sizes = {{3, 3, 9}, {16, 12, 192}, {3, 12, 36}, {16, 3, 48}, {2, 3, BAD}, {3, 2, BAD}, {17, 12, BAD},
            {16, 13, BAD}, {-5, -5, BAD}, {Integer.MAX_VALUE, 4, BAD}, {4, Integer.MIN_VALUE, BAD}};
        for (int[] size : sizes) {
            ContourSimplifier s = new ContourSimplifier();
            Check.due("2 reset " + size[0] + " " + size[1], s.reset(size[0], size[1]), size[2]);
            Check.due("2 width then", s.count(6), size[2] == BAD ? 8 : size[0]);
            Check.due("2 height then", s.count(7), size[2] == BAD ? 8 : size[1]);
        }
        ContourSimplifier s = new ContourSimplifier();
        s.fill(0, 0, 8, 8, 4);
        Check.type(s, "abc");
        s.trace(4, 4);
        s.remove(0, 0);
        Check.due("2 wrong reset", s.reset(8, 13), BAD);
        Check.due("2 contours stay then", s.count(0), 1);
        Check.due("2 steps stay then", s.count(5), 1);
        Check.due("2 levels stay then", s.level(7, 7), 4);
        Check.due("2 reset", s.reset(9, 9), 81);
        Check.due("2 no contours", s.count(0), 0);
        Check.due("2 no vertices", s.count(4), 0);
        Check.due("2 none present", s.count(3), 0);
        Check.due("2 no steps", s.count(5), 0);
        Check.due("2 no undo", s.undo(), ContourSimplifier.NONE);
        Check.due("2 no threshold", s.count(8), 0);
        Check.due("2 no misfit", s.misfit(), ContourSimplifier.NOT_POSSIBLE);
        Check.due("2 the text stays", s.count(9), 3);
        Check.due("2 levels are 0", s.flood(0, 0, 1), 81);
        Check.due("2 same size", s.reset(9, 9), 81);
        Check.due("2 levels are 0 again", s.level(4, 4), 0);
    }

    private static void set() {
        ContourSimplifier s = new ContourSimplifier();
        s.reset(5, 4);
        Check.due("3 first", s.set(4, 3, 9), 0);
        Check.due("3 again", s.set(4, 3, 0), 9);
        Check.due("3 and again", s.set(4, 3, 3), 0);
        Check.due("3 origin", s.set(0, 0, 1), 0);
        int[][] wrong = {{-1, 0, 1}, {5, 0, 1}, {0, -1, 1}, {0, 4, 1}, {0, 0, -1}, {0, 0, 10},
            {Integer.MIN_VALUE, 0, 1}, {0, Integer.MAX_VALUE, 1}};
        for (int[] w : wrong) {
            Check.due("3 set " + w[0] + " " + w[1] + " " + w[2], s.set(w[0], w[1], w[2]), BAD);
        }
        Check.due("3 kept", s.level(4, 3), 3);
        Check.due("3 origin kept", s.level(0, 0), 1);
        Check.due("3 neighbour", s.level(3, 3), 0);
    }

    private static void fill() {
        ContourSimplifier s = new ContourSimplifier();
        s.reset(7, 5);
        Check.due("4 fill", s.fill(1, 2, 3, 2, 6), 6);
        Check.due("4 overlap", s.fill(0, 2, 7, 1, 6), 4);
        Check.due("4 nothing changes", s.fill(1, 2, 3, 2, 6), 0);
        Check.due("4 the whole", s.fill(0, 0, 7, 5, 0), 10);
        Check.due("4 one pixel", s.fill(6, 4, 1, 1, 9), 1);
        Check.due("4 its level", s.level(6, 4), 9);
        int max = Integer.MAX_VALUE;
        int[][] wrong = {{0, 0, 0, 1, 1}, {0, 0, 1, 0, 1}, {0, 0, -1, 1, 1}, {-1, 0, 2, 1, 1}, {0, -1, 1, 2, 1},
            {1, 0, 7, 1, 1}, {0, 1, 1, 5, 1}, {7, 0, 1, 1, 1}, {0, 5, 1, 1, 1}, {0, 0, 1, 1, 10}, {0, 0, 1, 1, -1},
            {1, 1, max, 1, 1}, {1, 1, 1, max, 1}, {max, 1, max, 1, 1}, {max, max, 1, 1, 1},
            {6, 4, max, max, 1}, {Integer.MIN_VALUE, 0, Integer.MIN_VALUE, 1, 1}};
        for (int[] w : wrong) {
            Check.due("4 fill " + w[0] + " " + w[1] + " " + w[2] + " " + w[3] + " " + w[4],
                    s.fill(w[0], w[1], w[2], w[3], w[4]), BAD);
        }
        Check.due("4 nothing was changed", s.fill(0, 0, 7, 5, 0), 1);
    }

    private static void flood() {
        // level 1 forms a winding way, and one pixel that touches it only at a corner
        ContourSimplifier s = Check.picture(5, 4, "bbbab/aabaa/bbbab/baaba");
        Check.due("5 the way", s.flood(0, 3, 4), 8);
        Check.due("5 its other end", s.level(0, 0), 4);
        Check.due("5 not over a corner", s.level(3, 3), 1);
        Check.due("5 not over a gap", s.level(4, 0), 1);
        Check.due("5 the same level", s.flood(0, 0, 4), 0);
        Check.due("5 one pixel", s.flood(4, 2, 9), 1);
        Check.due("5 the last of level 0", s.flood(4, 3, 0), 0);
        Check.due("5 joined then", s.flood(3, 0, 1), 4);
        Check.due("5 bounded by levels", s.level(2, 1), 4);
        int[][] wrong = {{-1, 0, 1}, {5, 0, 1}, {0, -1, 1}, {0, 4, 1}, {0, 0, -1}, {0, 0, 10}};
        for (int[] w : wrong) {
            Check.due("5 flood " + w[0] + " " + w[1] + " " + w[2], s.flood(w[0], w[1], w[2]), BAD);
        }
        ContourSimplifier great = new ContourSimplifier();
        great.reset(16, 12);
        Check.due("5 the greatest", great.flood(8, 5, 9), 192);
        Check.due("5 back", great.flood(15, 11, 0), 192);
    }

    private static void level() {
        ContourSimplifier s = new ContourSimplifier();
        s.reset(16, 3);
        for (int x = 0; x < 16; x++) {
            s.set(x, 1, x % 10);
        }
        for (int x = 0; x < 16; x++) {
            Check.due("6 level " + x, s.level(x, 1), x % 10);
            Check.due("6 below " + x, s.level(x, 2), 0);
        }
        Check.due("6 left", s.level(-1, 0), BAD);
        Check.due("6 right", s.level(16, 0), BAD);
        Check.due("6 above", s.level(0, -1), BAD);
        Check.due("6 below", s.level(0, 3), BAD);
        Check.due("6 far", s.level(Integer.MAX_VALUE, Integer.MIN_VALUE), BAD);
    }

    private static void typeAndClear() {
        ContourSimplifier s = new ContourSimplifier();
        for (int i = 1; i <= 200; i++) {
            Check.due("7 type", s.type(i % 3 == 0 ? (char) 65535 : (char) (i - 1)), i);
        }
        Check.due("7 full", s.type('a'), ContourSimplifier.FULL);
        Check.due("7 full with a slash", s.type('/'), ContourSimplifier.FULL);
        Check.due("7 length", s.count(9), 200);
        Check.due("8 clearText", s.clearText(), 200);
        Check.due("8 length then", s.count(9), 0);
        Check.due("8 again", s.clearText(), 0);
        Check.due("7 after it", s.type('a'), 1);
        Check.due("8 old characters are gone", s.readPicture(), 0);
        ContourSimplifier full = new ContourSimplifier();
        full.reset(16, 12);
        for (int i = 0; i < 200; i++) {
            full.type((i + 1) % 17 == 0 ? '/' : 'b');
        }
        // 11 rows of 16 pixels and 13 characters of the last one
        Check.due("9 a full text", full.readPicture(), 11 * 16 + 13);
    }

    private static void answer(int width, int height, String text, int want) {
        ContourSimplifier s = new ContourSimplifier();
        s.reset(width, height);
        Check.type(s, text);
        Check.due("9 " + width + " by " + height + " '" + text + "'", s.readPicture(), want);
        Check.due("9 the text stays", s.count(9), text.length());
    }

    private static void readFaultless() {
        answer(4, 3, "", 0);
        answer(4, 3, "//", 0);
        answer(4, 3, "4b/4c/4j", 12);
        answer(4, 3, "a3b", 3);
        answer(4, 3, "b1b1b1b", 4);
        answer(4, 3, "3b/", 3);
        answer(4, 3, "/2a2d/", 2);
        answer(16, 12, "16b/10b6c/9b7j", 48);
        answer(16, 12, "///////////16b", 16);
        answer(12, 3, "12a/11ab", 1);
    }

    private static void readFaults() {
        answer(4, 3, "5b", -100);
        answer(4, 3, "bbbbb", -104);
        answer(4, 3, "4b1", -102);
        answer(4, 3, "4ba", -102);
        answer(4, 3, "a4", -101);
        answer(4, 3, "a3", -102);
        answer(4, 3, "4", -101);
        answer(4, 3, "3/", -101);
        answer(4, 3, "1/", -101);
        answer(4, 3, "0a", -100);
        answer(4, 3, "10a", -101);
        answer(4, 3, "01a", -100);
        answer(4, 3, "a0a", -101);
        answer(4, 3, "///", -102);
        answer(4, 3, "a/b/c/", -105);
        answer(4, 3, "k", -100);
        answer(4, 3, "A", -100);
        answer(4, 3, "a b", -101);
        answer(4, 3, "2`", -101);
        answer(4, 3, "b.", -101);
        answer(4, 3, ":", -100);
        answer(4, 3, "b" + (char) 0, -101);
        answer(4, 3, "b" + (char) ('a' + 256), -101);
        answer(16, 12, "16b/17b", -105);
        answer(16, 12, "99", -101);
        answer(16, 12, "6b11a", -103);
        answer(16, 12, "6b10a", 6);
        answer(16, 12, "////////////", -111);
        answer(16, 12, "2b/1", -104);
    }

    private static void readReplaces() {
        ContourSimplifier s = new ContourSimplifier();
        s.reset(4, 3);
        s.fill(0, 0, 4, 3, 2);
        s.trace(2, 4);
        s.remove(0, 0);
        Check.type(s, "cc/bx");
        Check.due("9 fault", s.readPicture(), -104);
        Check.due("9 levels stay at a fault", s.fill(0, 0, 4, 3, 2), 0);
        Check.due("9 contours stay at a fault", s.count(0), 1);
        Check.due("9 steps stay at a fault", s.count(5), 1);
        s.clearText();
        Check.type(s, "cc/b3c");
        Check.due("9 changed pixels", s.readPicture(), 2 + 1 + 4);
        int[][] levels = {{2, 2, 0, 0}, {1, 2, 2, 2}, {0, 0, 0, 0}};
        for (int y = 0; y < 3; y++) {
            for (int x = 0; x < 4; x++) {
                Check.due("9 level " + x + " " + y, s.level(x, y), levels[y][x]);
            }
        }
        Check.due("9 contours are removed", s.count(0), 0);
        Check.due("9 threshold", s.count(8), 0);
        Check.due("9 steps", s.count(5), 0);
        Check.due("9 undo", s.undo(), ContourSimplifier.NONE);
        Check.due("9 misfit", s.misfit(), ContourSimplifier.NOT_POSSIBLE);
        Check.due("9 again", s.readPicture(), 0);
        // nothing of a text that was read before is left
        s.clearText();
        Check.type(s, "a2");
        Check.due("9 ends with a number", s.readPicture(), -102);
        s.clearText();
        Check.type(s, "b/");
        Check.due("9 a shorter text", s.readPicture(), 6);
        Check.due("9 its only pixel", s.flood(1, 0, 5), 11);
        Check.due("9 the size stays", s.count(6) * 100 + s.count(7), 403);
    }
}
