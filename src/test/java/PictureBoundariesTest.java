/** Promises 1 to 9: a test for each sentence of the document that names a boundary case. */
public final class PictureBoundariesTest {
    private static final int NO_CONTOUR = ContourSimplifier.NO_SUCH_CONTOUR;
    private static final int BAD = ContourSimplifier.BAD_VALUE;
    private static final int NOT = ContourSimplifier.NOT_POSSIBLE;
    private static final int FULL = ContourSimplifier.FULL;
    private static final int NONE = ContourSimplifier.NONE;
    private static final int MIN = Integer.MIN_VALUE;
    private static final int MAX = Integer.MAX_VALUE;

    public static void main(String[] args) throws IllegalAccessException {
        Check.promises(PictureBoundariesTest.class, 1, 9);
        Check.end();
    }

    /** 4 by 3 pixels with a contour, of which a vertex is removed, and a text. */
    private static ContourSimplifier used() {
        ContourSimplifier s = Check.picture(4, 3, "bcd/bb/");
        Check.due("trace", s.trace(1, 4), 1);
        Check.due("remove", s.remove(0, 3), 1);
        Check.type(s, "2b/j");
        return s;
    }

    private static ContourSimplifier sized(int width, int height) {
        ContourSimplifier s = new ContourSimplifier();
        Check.due("reset", s.reset(width, height), (long) width * height);
        return s;
    }

    private static void dueNoContours(ContourSimplifier s) {
        for (int what : new int[] {0, 1, 2, 3, 4, 5, 8}) {
            Check.due("count " + what, s.count(what), 0);
        }
        Check.due("contour", s.contour(0, 0), NO_CONTOUR);
        Check.due("vertex", s.vertex(0, 0, 0), NO_CONTOUR);
        Check.due("chainCode", s.chainCode(0, 0), NO_CONTOUR);
        Check.due("remove", s.remove(0, 0), NO_CONTOUR);
        Check.due("insert", s.insert(0, 1), NO_CONTOUR);
        Check.due("covers", s.covers(0, 1, 1), NO_CONTOUR);
        Check.due("deviation", s.deviation(0, 0), NO_CONTOUR);
        Check.due("bySize", s.bySize(0), NONE);
        Check.due("next", s.next(), NONE);
        Check.due("undo", s.undo(), NONE);
        Check.due("misfit", s.misfit(), NOT);
        Check.due("isCovered", s.isCovered(1, 1), 0);
        Check.due("simplify", s.simplify(1000), 0);
        Check.due("reduce", s.reduce(0), 0);
        Check.due("limitFor", s.limitFor(0), 0);
        Check.due("refine", s.refine(), 0);
    }

    // ---- 1: a new object

    static void promise1ThePictureIs8By8() {
        ContourSimplifier s = new ContourSimplifier();
        Check.due("width", s.count(6), 8);
        Check.due("height", s.count(7), 8);
        Check.due("the last pixel", s.level(7, 7), 0);
        Check.due("beyond it to the right", s.level(8, 7), BAD);
        Check.due("beyond it downward", s.level(7, 8), BAD);
    }

    static void promise1AllLevelsAre0() {
        Check.due("pixels of level 0", new ContourSimplifier().flood(3, 3, 1), 64);
    }

    static void promise1ThereAreNoContours() {
        dueNoContours(new ContourSimplifier());
    }

    static void promise1TheTextIsEmpty() {
        ContourSimplifier s = new ContourSimplifier();
        Check.due("length", s.count(9), 0);
        Check.due("clearText", s.clearText(), 0);
        Check.due("readPicture", s.readPicture(), 0);
        Check.due("type", s.type('b'), 1);
    }

    static void promise1TheLastOf512CallsIsAnswered() {
        ContourSimplifier s = new ContourSimplifier();
        s.fill(0, 0, 8, 8, 1);
        s.trace(1, 4);
        for (int i = 0; i < 254; i++) {
            Check.due("remove", s.remove(0, i % 4), 64);
            Check.due("insert", s.insert(0, i % 4), 64);
        }
        Check.due("call 511", s.count(5), 508);
        Check.due("call 512", s.undo(), 507);
    }

    // ---- 2: reset

    private static void dueResetRefused(int[][] sizes) {
        ContourSimplifier s = used();
        for (int[] size : sizes) {
            Check.due("reset " + size[0] + " " + size[1], s.reset(size[0], size[1]), BAD);
        }
        Check.dueUnchanged(s, used());
    }

    static void promise2AWidthBelow3IsRefused() {
        dueResetRefused(new int[][] {{2, 3}, {2, 12}, {1, 5}, {0, 5}, {-1, 5}, {-5, 5}, {MIN, 5}});
    }

    static void promise2AWidthAbove16IsRefused() {
        dueResetRefused(new int[][] {{17, 3}, {17, 12}, {18, 5}, {32, 5}, {65539, 5}, {MAX, 5}});
    }

    static void promise2AHeightBelow3IsRefused() {
        dueResetRefused(new int[][] {{3, 2}, {16, 2}, {5, 1}, {5, 0}, {5, -1}, {5, -5}, {5, MIN}});
    }

    static void promise2AHeightAbove12IsRefused() {
        dueResetRefused(new int[][] {{3, 13}, {16, 13}, {5, 14}, {5, 16}, {12, 16}, {5, 65539}, {5, MAX}});
    }

    static void promise2WidthAndHeightAreRefusedTogether() {
        dueResetRefused(new int[][] {{2, 2}, {17, 13}, {2, 13}, {17, 2}, {-4, -3}, {MIN, MIN}, {MAX, MAX}});
    }

    static void promise2TheLeastPicture() {
        ContourSimplifier s = sized(3, 3);
        Check.due("width", s.count(6), 3);
        Check.due("height", s.count(7), 3);
        Check.due("its pixels", s.flood(2, 2, 9), 9);
        Check.due("beyond to the right", s.level(3, 0), BAD);
        Check.due("beyond downward", s.level(0, 3), BAD);
    }

    static void promise2TheGreatestPicture() {
        ContourSimplifier s = sized(16, 12);
        Check.due("width", s.count(6), 16);
        Check.due("height", s.count(7), 12);
        Check.due("its pixels", s.flood(15, 11, 9), 192);
        Check.due("beyond to the right", s.level(16, 0), BAD);
        Check.due("beyond downward", s.level(0, 12), BAD);
    }

    static void promise2TheNarrowestAndTheLowest() {
        Check.due("narrow and high", sized(3, 12).level(2, 11), 0);
        Check.due("wide and low", sized(16, 3).level(15, 2), 0);
        Check.due("wide and low, downward", sized(16, 3).level(2, 11), BAD);
    }

    static void promise2AllLevelsAre0Then() {
        ContourSimplifier s = sized(16, 12);
        s.fill(0, 0, 16, 12, 9);
        Check.due("to the least", s.reset(3, 3), 9);
        Check.due("its levels", s.fill(0, 0, 3, 3, 0), 0);
        Check.due("back to the greatest", s.reset(16, 12), 192);
        Check.due("its levels", s.fill(0, 0, 16, 12, 0), 0);
    }

    static void promise2WhatIsBeyondASmallerPictureIsOutside() {
        ContourSimplifier s = sized(16, 12);
        s.fill(0, 0, 16, 12, 9);
        s.reset(4, 4);
        s.fill(0, 0, 4, 4, 9);
        Check.due("trace", s.trace(9, 4), 1);
        Check.dueText("its border", Check.polygon(s, 0), "0,0 4,0 4,4 0,4");
    }

    static void promise2TheSameSizeStartsAnewToo() {
        ContourSimplifier s = used();
        Check.due("reset", s.reset(4, 3), 12);
        Check.due("levels", s.fill(0, 0, 4, 3, 0), 0);
        dueNoContours(s);
    }

    static void promise2TheContoursAreRemoved() {
        ContourSimplifier s = used();
        Check.due("reset", s.reset(16, 12), 192);
        dueNoContours(s);
    }

    static void promise2AnEmptyTextStays() {
        ContourSimplifier s = new ContourSimplifier();
        s.reset(4, 3);
        Check.due("length", s.count(9), 0);
    }

    static void promise2AFullTextStays() {
        ContourSimplifier s = new ContourSimplifier();
        for (int i = 0; i < 200; i++) {
            s.type('b');
        }
        Check.due("reset", s.reset(5, 3), 15);
        Check.due("length", s.count(9), 200);
        Check.due("full", s.type('b'), FULL);
        Check.due("its row is too long for the new width", s.readPicture(), -105);
    }

    // ---- 3: set

    private static void dueSetRefused(int[][] calls) {
        ContourSimplifier s = used();
        for (int[] c : calls) {
            Check.due("set " + c[0] + " " + c[1] + " " + c[2], s.set(c[0], c[1], c[2]), BAD);
        }
        Check.dueUnchanged(s, used());
    }

    static void promise3AnXOutsideIsRefused() {
        dueSetRefused(new int[][] {{-1, 0, 5}, {4, 0, 5}, {-1, 2, 5}, {4, 2, 5}, {15, 0, 5}, {16, 0, 5}, {MIN, 0, 5},
            {MAX, 0, 5}});
    }

    static void promise3AYOutsideIsRefused() {
        dueSetRefused(new int[][] {{0, -1, 5}, {0, 3, 5}, {3, -1, 5}, {3, 3, 5}, {0, 11, 5}, {0, 12, 5}, {0, MIN, 5},
            {0, MAX, 5}, {0, 1 << 28, 5}});
    }

    static void promise3ALevelBelow0IsRefused() {
        dueSetRefused(new int[][] {{0, 0, -1}, {3, 2, -1}, {0, 0, -9}, {0, 0, MIN}});
    }

    static void promise3ALevelAbove9IsRefused() {
        dueSetRefused(new int[][] {{0, 0, 10}, {3, 2, 10}, {0, 0, 99}, {0, 0, MAX}});
    }

    static void promise3TheLeastAndTheGreatestLevel() {
        ContourSimplifier s = sized(3, 3);
        Check.due("to 9", s.set(1, 1, 9), 0);
        Check.due("to 0", s.set(1, 1, 0), 9);
        Check.due("it is 0", s.level(1, 1), 0);
    }

    static void promise3TheSameLevelIsThePreviousOne() {
        ContourSimplifier s = sized(3, 3);
        s.set(2, 1, 4);
        Check.due("again", s.set(2, 1, 4), 4);
        Check.due("it stays", s.level(2, 1), 4);
    }

    static void promise3TheFourCorners() {
        ContourSimplifier s = sized(16, 12);
        int[][] corners = {{0, 0}, {15, 0}, {0, 11}, {15, 11}};
        for (int i = 0; i < 4; i++) {
            Check.due("corner " + i, s.set(corners[i][0], corners[i][1], i + 1), 0);
        }
        for (int i = 0; i < 4; i++) {
            Check.due("level " + i, s.level(corners[i][0], corners[i][1]), i + 1);
            s.set(corners[i][0], corners[i][1], 0);
        }
        Check.due("no other pixel", s.fill(0, 0, 16, 12, 0), 0);
    }

    static void promise3TheContoursStay() {
        ContourSimplifier s = used();
        String polygon = Check.polygon(s, 0);
        Check.due("set", s.set(0, 0, 0), 1);
        Check.due("contours", s.count(0), 1);
        Check.due("steps", s.count(5), 1);
        Check.dueText("polygon", Check.polygon(s, 0), polygon);
    }

    // ---- 4: fill

    private static void dueFillRefused(int[][] calls) {
        ContourSimplifier s = used();
        for (int[] c : calls) {
            Check.due("fill " + c[0] + " " + c[1] + " " + c[2] + " " + c[3] + " " + c[4],
                    s.fill(c[0], c[1], c[2], c[3], c[4]), BAD);
        }
        Check.dueUnchanged(s, used());
    }

    static void promise4AWidthBelow1IsRefused() {
        dueFillRefused(new int[][] {{0, 0, 0, 1, 5}, {3, 2, 0, 1, 5}, {0, 0, -1, 1, 5}, {2, 1, -2, 1, 5},
            {0, 0, MIN, 1, 5}});
    }

    static void promise4AHeightBelow1IsRefused() {
        dueFillRefused(new int[][] {{0, 0, 1, 0, 5}, {3, 2, 1, 0, 5}, {0, 0, 1, -1, 5}, {2, 2, 1, -2, 5},
            {0, 0, 1, MIN, 5}});
    }

    static void promise4ALevelBelow0IsRefused() {
        dueFillRefused(new int[][] {{0, 0, 1, 1, -1}, {0, 0, 4, 3, -1}, {0, 0, 1, 1, MIN}});
    }

    static void promise4ALevelAbove9IsRefused() {
        dueFillRefused(new int[][] {{0, 0, 1, 1, 10}, {0, 0, 4, 3, 10}, {0, 0, 1, 1, MAX}});
    }

    static void promise4TooFarToTheLeftIsRefused() {
        dueFillRefused(new int[][] {{-1, 0, 1, 1, 5}, {-1, 0, 2, 1, 5}, {-1, 0, 5, 3, 5}, {MIN, 0, 1, 1, 5}});
    }

    static void promise4TooFarUpIsRefused() {
        dueFillRefused(new int[][] {{0, -1, 1, 1, 5}, {0, -1, 1, 2, 5}, {0, -1, 4, 4, 5}, {0, MIN, 1, 1, 5}});
    }

    static void promise4TooFarToTheRightIsRefused() {
        dueFillRefused(new int[][] {{4, 0, 1, 1, 5}, {3, 0, 2, 1, 5}, {0, 0, 5, 1, 5}, {0, 0, 5, 3, 5}, {MAX, 0, 1, 1, 5}});
    }

    static void promise4TooFarDownIsRefused() {
        dueFillRefused(new int[][] {{0, 3, 1, 1, 5}, {0, 2, 1, 2, 5}, {0, 0, 1, 4, 5}, {0, 0, 4, 4, 5}, {0, MAX, 1, 1, 5}});
    }

    static void promise4ASumThatWrapsAroundIsRefused() {
        dueFillRefused(new int[][] {{1, 0, MAX, 1, 5}, {3, 0, MAX, 1, 5}, {0, 1, 1, MAX, 5}, {0, 2, 1, MAX, 5},
            {MAX, 0, MAX, 1, 5}, {0, MAX, 1, MAX, 5}, {MIN, 0, MIN, 1, 5}, {0, MIN, 1, MIN, 5}, {2, 2, MAX, MAX, 5},
            {MAX, MAX, 2, 2, 5}, {0, 0, MAX, MAX, 5}});
    }

    static void promise4OnePixelInEachCorner() {
        ContourSimplifier s = sized(5, 4);
        int[][] corners = {{0, 0}, {4, 0}, {0, 3}, {4, 3}};
        for (int[] c : corners) {
            Check.due("fill " + c[0] + " " + c[1], s.fill(c[0], c[1], 1, 1, 7), 1);
            Check.due("level " + c[0] + " " + c[1], s.level(c[0], c[1]), 7);
        }
        Check.due("just four", s.fill(0, 0, 5, 4, 0), 4);
    }

    static void promise4TheWholePicture() {
        Check.due("the least", sized(3, 3).fill(0, 0, 3, 3, 9), 9);
        Check.due("the greatest", sized(16, 12).fill(0, 0, 16, 12, 9), 192);
    }

    static void promise4TheLastRowAndTheLastColumn() {
        ContourSimplifier s = sized(5, 4);
        Check.due("the row", s.fill(0, 3, 5, 1, 2), 5);
        Check.due("the column", s.fill(4, 0, 1, 4, 2), 3);
        Check.due("beside them", s.level(3, 2), 0);
    }

    static void promise4OnlyPixelsThatChangeAreCounted() {
        ContourSimplifier s = sized(5, 4);
        Check.due("level 0 again", s.fill(0, 0, 5, 4, 0), 0);
        s.set(2, 2, 5);
        Check.due("all but one", s.fill(0, 0, 5, 4, 5), 19);
        Check.due("none", s.fill(0, 0, 5, 4, 5), 0);
    }

    static void promise4TheContoursStay() {
        ContourSimplifier s = used();
        String polygon = Check.polygon(s, 0);
        Check.due("fill", s.fill(0, 0, 4, 3, 0), 5);
        Check.due("contours", s.count(0), 1);
        Check.dueText("polygon", Check.polygon(s, 0), polygon);
    }

    // ---- 5: flood

    private static void dueFloodRefused(int[][] calls) {
        ContourSimplifier s = used();
        for (int[] c : calls) {
            Check.due("flood " + c[0] + " " + c[1] + " " + c[2], s.flood(c[0], c[1], c[2]), BAD);
        }
        Check.dueUnchanged(s, used());
    }

    static void promise5AnXOutsideIsRefused() {
        dueFloodRefused(new int[][] {{-1, 0, 5}, {4, 0, 5}, {-1, 2, 5}, {4, 2, 5}, {MIN, 0, 5}, {MAX, 0, 5}});
    }

    static void promise5AYOutsideIsRefused() {
        dueFloodRefused(new int[][] {{0, -1, 5}, {0, 3, 5}, {3, -1, 5}, {3, 3, 5}, {0, MIN, 5}, {0, MAX, 5}});
    }

    static void promise5ALevelBelow0IsRefused() {
        dueFloodRefused(new int[][] {{0, 0, -1}, {3, 2, -1}, {0, 0, MIN}});
    }

    static void promise5ALevelAbove9IsRefused() {
        dueFloodRefused(new int[][] {{0, 0, 10}, {3, 2, 10}, {0, 0, MAX}});
    }

    static void promise5TheSameLevelChangesNothing() {
        ContourSimplifier s = used();
        Check.due("flood of level 1 to 1", s.flood(0, 0, 1), 0);
        Check.due("flood of level 0 to 0", s.flood(3, 2, 0), 0);
        Check.dueUnchanged(s, used());
    }

    static void promise5OnePixelAlone() {
        ContourSimplifier s = Check.picture(3, 3, "/ab/");
        Check.due("flood", s.flood(1, 1, 9), 1);
        Check.due("its level", s.level(1, 1), 9);
        Check.due("around it", s.flood(0, 0, 9), 8);
    }

    static void promise5NoStepOverACorner() {
        ContourSimplifier s = Check.picture(3, 3, "bab/aba/bab");
        Check.due("the middle", s.flood(1, 1, 5), 1);
        for (int[] c : new int[][] {{0, 0}, {2, 0}, {0, 2}, {2, 2}}) {
            Check.due("corner " + c[0] + " " + c[1], s.level(c[0], c[1]), 1);
        }
    }

    static void promise5AStepToEachOfFourSides() {
        ContourSimplifier s = Check.picture(3, 3, "aba/bbb/aba");
        Check.due("the cross", s.flood(1, 1, 5), 5);
    }

    static void promise5NoStepFromTheEndOfARowToTheNextRow() {
        ContourSimplifier s = sized(16, 12);
        s.set(15, 4, 1);
        s.set(0, 5, 1);
        Check.due("from the right", s.flood(15, 4, 3), 1);
        Check.due("the other one stays", s.level(0, 5), 1);
        Check.due("from the left", s.flood(0, 5, 3), 1);
    }

    static void promise5NoStepAroundThePicture() {
        ContourSimplifier s = sized(16, 12);
        s.fill(1, 0, 14, 12, 1);
        Check.due("not from the left to the right", s.flood(0, 0, 2), 12);
        Check.due("the right stays", s.level(15, 0), 0);
        s.reset(16, 12);
        s.fill(0, 1, 16, 10, 1);
        Check.due("not from the top to the bottom", s.flood(0, 0, 2), 16);
        Check.due("the bottom stays", s.level(0, 11), 0);
    }

    static void promise5TheWholePicture() {
        Check.due("the least", sized(3, 3).flood(1, 1, 1), 9);
        Check.due("the greatest from the first pixel", sized(16, 12).flood(0, 0, 1), 192);
        Check.due("the greatest from the last pixel", sized(16, 12).flood(15, 11, 1), 192);
    }

    static void promise5TheLongestWay() {
        ContourSimplifier s = Check.picture(16, 12, "16b/15ab/16b/b/16b/15ab/16b/b/16b/15ab/16b/b");
        Check.due("from end to end", s.flood(0, 0, 7), 6 * 16 + 6);
        Check.due("its other end", s.level(0, 11), 7);
    }

    static void promise5PixelsThatHaveTheNewLevelAreNeitherCountedNorPassed() {
        ContourSimplifier s = Check.picture(5, 3, "aabaa/aabaa/aabaa");
        Check.due("flood", s.flood(0, 0, 1), 6);
        Check.due("behind the wall", s.level(3, 0), 0);
    }

    static void promise5NothingOfAnEarlierFloodIsLeft() {
        ContourSimplifier s = sized(16, 12);
        Check.due("all", s.flood(8, 6, 1), 192);
        for (int x = 1; x < 16; x += 2) {
            s.fill(x, 0, 1, 12, 2);
        }
        Check.due("one column", s.flood(1, 0, 3), 12);
        Check.due("the others stay", s.level(3, 0), 2);
        s.set(0, 0, 5);
        Check.due("one pixel", s.flood(0, 0, 2), 1);
        Check.due("the columns", s.fill(0, 0, 16, 12, 2), 192 - 7 * 12 - 1);
    }

    static void promise5TheContoursStay() {
        ContourSimplifier s = used();
        String polygon = Check.polygon(s, 0);
        Check.due("flood", s.flood(3, 2, 9), 7);
        Check.due("contours", s.count(0), 1);
        Check.dueText("polygon", Check.polygon(s, 0), polygon);
    }

    // ---- 6: level

    private static void dueLevelRefused(int[][] pixels) {
        ContourSimplifier s = used();
        for (int[] p : pixels) {
            Check.due("level " + p[0] + " " + p[1], s.level(p[0], p[1]), BAD);
        }
        Check.dueUnchanged(s, used());
    }

    static void promise6AnXOutsideIsRefused() {
        dueLevelRefused(new int[][] {{-1, 0}, {4, 0}, {-1, 2}, {4, 2}, {8, 0}, {16, 0}, {MIN, 0}, {MAX, 0}});
    }

    static void promise6AYOutsideIsRefused() {
        dueLevelRefused(new int[][] {{0, -1}, {0, 3}, {3, -1}, {3, 3}, {0, 8}, {0, 12}, {0, MIN}, {0, MAX}, {0, 1 << 28}});
    }

    static void promise6TheLastPixelOfEachSide() {
        ContourSimplifier s = Check.picture(4, 3, "bcde/faag/hijb");
        int[][] levels = {{1, 2, 3, 4}, {5, 0, 0, 6}, {7, 8, 9, 1}};
        for (int y = 0; y < 3; y++) {
            for (int x = 0; x < 4; x++) {
                Check.due("level " + x + " " + y, s.level(x, y), levels[y][x]);
            }
        }
    }

    // ---- 7: type

    private static ContourSimplifier withFullText() {
        ContourSimplifier s = sized(16, 12);
        for (int i = 1; i <= 200; i++) {
            Check.due("type", s.type(i % 17 == 0 ? '/' : 'b'), i);
        }
        return s;
    }

    static void promise7TheCharacter200IsTaken() {
        Check.due("length", withFullText().count(9), 200);
    }

    static void promise7TheCharacter201IsRefused() {
        ContourSimplifier s = withFullText();
        Check.due("type", s.type('c'), FULL);
        Check.due("type again", s.type('k'), FULL);
        Check.due("length", s.count(9), 200);
        Check.due("the text is as it was", s.readPicture(), 11 * 16 + 13);
        Check.due("its last pixel", s.level(12, 11), 1);
    }

    static void promise7AfterClearTextThereIsRoom() {
        ContourSimplifier s = withFullText();
        s.type('c');
        s.clearText();
        Check.due("the first", s.type('c'), 1);
        Check.due("what it reads", s.readPicture(), 1);
        Check.due("its level", s.level(0, 0), 2);
    }

    static void promise7AnyCharacterIsTaken() {
        ContourSimplifier s = new ContourSimplifier();
        char[] all = {0, '\n', ' ', '0', 'k', 127, 128, 255, 256, 0x7fff, 0x8000, 0xd800, 0xdfff, 0xfffe, 0xffff};
        for (int i = 0; i < all.length; i++) {
            Check.due("type " + (int) all[i], s.type(all[i]), i + 1);
        }
    }

    // ---- 8: clearText

    static void promise8AnEmptyTextHadTheLength0() {
        ContourSimplifier s = new ContourSimplifier();
        Check.due("clearText", s.clearText(), 0);
        s.type('a');
        s.clearText();
        Check.due("clearText again", s.clearText(), 0);
    }

    static void promise8AFullTextHadTheLength200() {
        ContourSimplifier s = withFullText();
        Check.due("clearText", s.clearText(), 200);
        Check.due("length", s.count(9), 0);
    }

    static void promise8NothingOfTheTextIsLeft() {
        ContourSimplifier s = withFullText();
        s.clearText();
        Check.due("the empty text", s.readPicture(), 0);
    }

    static void promise8ThePictureAndTheContoursStay() {
        ContourSimplifier s = used();
        ContourSimplifier plain = used();
        Check.due("clearText", s.clearText(), 4);
        Check.type(s, "2b/j");
        Check.dueUnchanged(s, plain);
    }

    // ---- 9: readPicture

    /** What reading a text answers; a fault must change nothing. */
    private static void dueRead(int width, int height, String text, int want) {
        ContourSimplifier s = sized(width, height);
        s.fill(0, 0, width, height, 9);
        s.trace(9, 4);
        Check.type(s, text);
        String name = width + " by " + height + " '" + text + "': ";
        Check.due(name, s.readPicture(), want);
        Check.due(name + "the text stays", s.count(9), text.length());
        if (want < 0) {
            Check.due(name + "the levels stay", s.fill(0, 0, width, height, 9), 0);
            Check.due(name + "the contours stay", s.count(0), 1);
            Check.due(name + "the threshold stays", s.count(8), 9);
        } else {
            Check.due(name + "the contours are removed", s.count(0), 0);
            Check.due(name + "the threshold is 0", s.count(8), 0);
        }
    }

    private static void dueLevels(int width, int height, String text, String levels) {
        ContourSimplifier s = sized(width, height);
        s.fill(0, 0, width, height, 9);
        Check.type(s, text);
        s.readPicture();
        StringBuilder found = new StringBuilder();
        for (int y = 0; y < height; y++) {
            found.append(y == 0 ? "" : "/");
            for (int x = 0; x < width; x++) {
                found.append(s.level(x, y));
            }
        }
        Check.dueText("'" + text + "'", found.toString(), levels);
    }

    static void promise9TheEmptyTextIsAllowed() {
        dueRead(4, 3, "", 12);
        dueLevels(4, 3, "", "0000/0000/0000");
    }

    static void promise9EmptyRowsAreAllowed() {
        dueRead(4, 3, "/", 12);
        dueRead(4, 3, "//", 12);
        dueRead(4, 3, "j//j", 10);
        dueLevels(4, 3, "//b", "0000/0000/1000");
        dueLevels(4, 3, "b//c", "1000/0000/2000");
        dueLevels(4, 3, "b//", "1000/0000/0000");
    }

    static void promise9PixelsThatAreNotInTheTextBecome0() {
        dueLevels(4, 3, "bc/d", "1200/3000/0000");
        dueLevels(4, 3, "3j", "9990/0000/0000");
    }

    static void promise9AsManyRowsAsTheHeight() {
        dueRead(3, 3, "3b/3b/3b", 9);
        dueRead(16, 12, "a/a/a/a/a/a/a/a/a/a/a/16j", 176);
        dueRead(16, 12, "///////////", 192);
    }

    static void promise9ARowMoreThanTheHeightIsAFault() {
        dueRead(3, 3, "///", -102);
        dueRead(3, 3, "a/a/a/", -105);
        dueRead(3, 3, "a/a/a/a", -105);
        dueRead(16, 12, "////////////", -111);
    }

    static void promise9AsManyPixelsAsTheWidth() {
        dueRead(3, 3, "bbb/ccc/ddd", 9);
        dueRead(3, 3, "3b/2bc/b2c", 9);
        dueRead(16, 12, "16j/15jj/j15j", 144);
        dueRead(16, 12, "jjjjjjjjjjjjjjjj", 176);
    }

    static void promise9ALetterMoreThanTheWidthIsAFault() {
        dueRead(3, 3, "bbbb", -103);
        dueRead(3, 3, "aaaa", -103);
        dueRead(3, 3, "3ba", -102);
        dueRead(3, 3, "3b/2bbb", -106);
        dueRead(16, 12, "jjjjjjjjjjjjjjjjj", -116);
        dueRead(16, 12, "16ba", -103);
    }

    static void promise9ARowEndMakesRoomForAWholeRow() {
        dueRead(3, 3, "3b/3b", 9);
        dueRead(3, 3, "bb/3b", 9);
        dueRead(3, 3, "/3b", 9);
    }

    static void promise9ANumberAsGreatAsWhatIsLeftIsAllowed() {
        dueRead(4, 3, "4b", 12);
        dueRead(4, 3, "a3b", 12);
        dueRead(4, 3, "aaa1b", 12);
        dueRead(16, 12, "16a", 192);
        dueRead(16, 12, "6a10a", 192);
        dueRead(16, 12, "4a12a", 192);
    }

    static void promise9EachDigitFrom1To9IsAllowed() {
        for (int digit = 1; digit <= 9; digit++) {
            dueRead(9, 3, digit + "j", 27 - digit);
            dueRead(9, 3, digit + "", -101);
        }
        for (int digit = 0; digit <= 6; digit++) {
            dueRead(16, 12, "1" + digit + "j", 192 - 10 - digit);
        }
    }

    static void promise9ANumberOfAnEarlierTextIsForgotten() {
        ContourSimplifier s = sized(4, 3);
        Check.type(s, "a3");
        Check.due("a number at the end", s.readPicture(), -102);
        Check.due("again", s.readPicture(), -102);
        s.clearText();
        Check.type(s, "b");
        Check.due("one pixel", s.readPicture(), 1);
        s.clearText();
        Check.type(s, "3k");
        Check.due("a fault behind a number", s.readPicture(), -101);
        s.clearText();
        Check.type(s, "/b");
        Check.due("the next text", s.readPicture(), 2);
    }

    static void promise9ADigitIsAFaultIfTheNumberIsGreaterThanWhatIsLeft() {
        dueRead(4, 3, "5b", -100);
        dueRead(4, 3, "9b", -100);
        dueRead(4, 3, "a4b", -101);
        dueRead(4, 3, "aaa2b", -103);
        dueRead(4, 3, "10b", -101);
        dueRead(4, 3, "11b", -101);
        dueRead(16, 12, "17a", -101);
        dueRead(16, 12, "20a", -101);
        dueRead(16, 12, "160a", -102);
        dueRead(16, 12, "100a", -102);
        dueRead(16, 12, "6a11a", -103);
        dueRead(16, 12, "8a9a", -102);
    }

    static void promise9ADigitInAFullRowIsAFault() {
        dueRead(4, 3, "4b1", -102);
        dueRead(4, 3, "4b1b", -102);
        dueRead(4, 3, "bbbb1", -104);
        dueRead(4, 3, "4b0", -102);
        dueRead(16, 12, "16b1", -103);
    }

    static void promise9ANumberThatWouldWrapAroundIsAFault() {
        dueRead(16, 12, "1000000000000a", -102);
        dueRead(16, 12, "4294967297a", -101);
    }

    static void promise9ALeading0IsAFault() {
        dueRead(4, 3, "0", -100);
        dueRead(4, 3, "0b", -100);
        dueRead(4, 3, "01b", -100);
        dueRead(4, 3, "b02b", -101);
        dueRead(4, 3, "b/0b", -102);
    }

    static void promise9A0BehindAnotherDigitIsAllowed() {
        dueRead(16, 12, "10a", 192);
        dueRead(10, 3, "10j", 20);
        dueRead(9, 3, "10j", -101);
    }

    static void promise9WithoutANumberARunHas1Pixel() {
        dueLevels(4, 3, "bcde/1b1c1d1e", "1234/1234/0000");
        dueLevels(4, 3, "2bc/b2cd", "1120/1223/0000");
    }

    static void promise9ASlashBehindANumberIsAFault() {
        dueRead(4, 3, "3/", -101);
        dueRead(4, 3, "b1/b", -102);
        dueRead(16, 12, "12/", -102);
        dueRead(3, 3, "//1/", -103);
    }

    static void promise9ANumberAtTheEndIsAFaultBehindTheText() {
        dueRead(4, 3, "1", -101);
        dueRead(4, 3, "4", -101);
        dueRead(4, 3, "b/3", -103);
        dueRead(4, 3, "3b1", -103);
        dueRead(16, 12, "16", -102);
        dueRead(16, 12, "1", -101);
    }

    static void promise9TheLettersEndAtJ() {
        dueLevels(10, 3, "abcdefghij", "0123456789/0000000000/0000000000");
        dueRead(4, 3, "j", 11);
        dueRead(4, 3, "k", -100);
        dueRead(4, 3, "z", -100);
        dueRead(4, 3, "2k", -101);
        dueRead(4, 3, "`", -100);
        dueRead(4, 3, "A", -100);
        dueRead(4, 3, "J", -100);
    }

    static void promise9EveryOtherCharacterIsAFault() {
        String others = " .:;-+\n\t_" + (char) 0 + (char) 127 + (char) 225 + (char) 353 + (char) 0xff11 + (char) 0x661
                + (char) 0xffff;
        for (int i = 0; i < others.length(); i++) {
            dueRead(4, 3, "b" + others.charAt(i), -101);
            dueRead(4, 3, others.charAt(i) + "b", -100);
            dueRead(4, 3, "1" + others.charAt(i), -101);
        }
    }

    static void promise9EveryOtherCharacterIsAFaultWhereAnyNumberHasRoom() {
        // a narrow row would refuse a sign beside the digits as too great a number, if it were taken for one
        for (int code = 0; code <= Character.MAX_VALUE; code++) {
            char character = (char) code;
            if ("123456789abcdefghij/".indexOf(character) < 0) {
                dueRead(16, 12, String.valueOf(character), -100);
                dueRead(16, 12, "b" + character, -101);
            }
            if ("0123456abcdefghij".indexOf(character) < 0) {
                dueRead(16, 12, "1" + character, -101);
            }
        }
    }

    static void promise9TheFirstFaultIsTold() {
        dueRead(4, 3, "bk5x", -101);
        dueRead(4, 3, "bbbbb////", -104);
        dueRead(4, 3, "x2", -100);
        dueRead(4, 3, "////0", -102);
    }

    static void promise9AFullTextMayHaveNoFault() {
        Check.due("readPicture", withFullText().readPicture(), 11 * 16 + 13);
    }

    private static void dueFullText(char last, int want) {
        ContourSimplifier s = sized(16, 12);
        for (int i = 0; i < 199; i++) {
            s.type((i + 1) % 17 == 0 ? '/' : 'b');
        }
        Check.due("length", s.type(last), 200);
        Check.due("readPicture", s.readPicture(), want);
        Check.due("the text stays", s.count(9), 200);
    }

    static void promise9AFaultAtTheLastPlaceOfAFullText() {
        dueFullText('k', -299);
        dueFullText('5', -299);
        dueFullText('/', -299);
    }

    static void promise9AFullTextThatEndsWithANumber() {
        // 12 pixels of the last row are there, so that 4 are left
        dueFullText('4', -300);
    }

    static void promise9AFaultChangesNothing() {
        ContourSimplifier s = used();
        ContourSimplifier plain = used();
        s.clearText();
        plain.clearText();
        Check.type(s, "j/j/jk");
        Check.type(plain, "j/j/jk");
        Check.due("fault", s.readPicture(), -105);
        Check.dueUnchanged(s, plain);
        Check.due("undo is possible", s.undo(), 0);
    }

    static void promise9TheContoursAreRemovedThoughNoPixelChanges() {
        ContourSimplifier s = used();
        s.clearText();
        Check.type(s, "bcd/bb");
        Check.due("readPicture", s.readPicture(), 0);
        dueNoContours(s);
    }

    static void promise9OnlyPixelsThatChangeAreCounted() {
        ContourSimplifier s = Check.picture(4, 3, "bcd/bb/");
        Check.type(s, "bcc/b/j");
        Check.due("readPicture", s.readPicture(), 3);
        Check.due("again", s.readPicture(), 0);
        s.set(3, 2, 1);
        Check.due("one is changed back", s.readPicture(), 1);
    }

    static void promise9TheSizeStays() {
        ContourSimplifier s = sized(5, 4);
        Check.type(s, "b");
        s.readPicture();
        Check.due("width", s.count(6), 5);
        Check.due("height", s.count(7), 4);
    }

    static void promise9TheWidthAndHeightAreThoseAtPresent() {
        ContourSimplifier s = sized(5, 4);
        Check.type(s, "5b///");
        Check.due("in 5 by 4", s.readPicture(), 5);
        s.reset(4, 4);
        Check.due("in 4 by 4", s.readPicture(), -100);
        s.reset(5, 3);
        Check.due("in 5 by 3", s.readPicture(), -104);
    }
}
