/** Terms: the bounds of RULE (1), FRAME (3), PICTURE (2) and TEXT (0). */
public final class EdgeKindsTest {
    private static final Check CHECK = new Check();
    private static final int TEXT = 0;
    private static final int RULE = 1;
    private static final int PICTURE = 2;
    private static final int FRAME = 3;

    public static void main(String[] args) {
        rulesAreAtMost2High();
        rulesGoByTheirBoxes();
        framesAre7OrMoreEachWay();
        eachOuterRowAndColumnHasThreeQuarters();
        allFourMayHaveThreeQuartersAlone();
        cornersAreOfARowAndOfAColumn();
        atMostAQuarterWithin();
        otherPartsWithinCountToo();
        specksAndGapsDoNotCount();
        picturesAre7OrMoreEachWay();
        atLeastHalfOfAPictureIsBlack();
        framesGoBeforePictures();
        CHECK.end();
    }

    private static int firstKind(PageParts page, int gapX, int gapY) {
        page.noise(0);
        page.run(gapX, gapY);
        return page.part(0, 5);
    }

    /** What is so wide is drawn from this column on: not where columns and rows have the same numbers. */
    private static int leftOf(int wide) {
        return 24 - wide;
    }

    /** What is so high is drawn from this row on. */
    private static int topOf(int high) {
        return (24 - high) / 2;
    }

    private static int kindOfBlock(int wide, int high) {
        PageParts page = new PageParts(24, 24);
        page.fill(leftOf(wide), topOf(high), wide, high, true);
        return firstKind(page, 0, 0);
    }

    private static void block(int wide, int high, int due) {
        CHECK.same(wide + " by " + high, due, kindOfBlock(wide, high));
        CHECK.same(high + " by " + wide, due, kindOfBlock(high, wide));
    }

    /** "at most 2 high and at least 5 times as wide as high, or the other way round". */
    private static void rulesAreAtMost2High() {
        block(1, 1, TEXT);
        block(2, 1, TEXT);
        block(4, 1, TEXT);
        block(5, 1, RULE);
        block(6, 1, RULE);
        block(24, 1, RULE);
        block(2, 2, TEXT);
        block(5, 2, TEXT);
        block(9, 2, TEXT);
        block(10, 2, RULE);
        block(11, 2, RULE);
        block(24, 2, RULE);
        block(14, 3, TEXT);
        block(15, 3, TEXT);
        block(24, 3, TEXT);
        block(20, 4, TEXT);
    }

    private static void rulesGoByTheirBoxes() {
        CHECK.same("a box of 5 by 1, mostly white", RULE, firstKind(Pages.draw("#...#"), 3, 0));
        CHECK.same("a box of 4 by 1", TEXT, firstKind(Pages.draw("#..#."), 3, 0));
        CHECK.same("a box of 10 by 2", RULE, firstKind(Pages.draw("######....", ".....#####"), 0, 0));
        CHECK.same("a box of 9 by 2", TEXT, firstKind(Pages.draw("######...", ".....####"), 0, 0));
        CHECK.same("a box of 1 by 5", RULE, firstKind(Pages.draw("#", ".", ".", ".", "#"), 0, 3));
        CHECK.same("a box of 1 by 4", TEXT, firstKind(Pages.draw("#", ".", ".", "#", "."), 0, 3));
    }

    private static PageParts ring(int wide, int high) {
        PageParts page = new PageParts(24, 24);
        page.fill(leftOf(wide), topOf(high), wide, high, true);
        page.fill(leftOf(wide) + 1, topOf(high) + 1, wide - 2, high - 2, false);
        return page;
    }

    private static void framesAre7OrMoreEachWay() {
        int[][] due = {{6, 6, TEXT}, {6, 7, TEXT}, {7, 6, TEXT}, {6, 24, TEXT}, {24, 6, TEXT},
            {7, 7, FRAME}, {7, 8, FRAME}, {8, 7, FRAME}, {7, 24, FRAME}, {24, 7, FRAME}, {24, 24, FRAME}};
        for (int[] one : due) {
            CHECK.same("a ring of " + one[0] + " by " + one[1], one[2], firstKind(ring(one[0], one[1]), 0, 0));
        }
    }

    /** A ring of a side's length each way; from one side of it some are taken, next to the first corner. */
    private static int kindWithout(int side, int which, int taken) {
        PageParts page = ring(side, side);
        int far = which % 2 == 0 ? 0 : side - 1;
        if (which < 2) {
            page.fill(leftOf(side) + 1, topOf(side) + far, taken, 1, false);
        } else {
            page.fill(leftOf(side) + far, topOf(side) + 1, 1, taken, false);
        }
        return firstKind(page, 0, 0);
    }

    private static void eachOuterRowAndColumnHasThreeQuarters() {
        String[] names = {"the upper row", "the lower row", "the left column", "the right column"};
        // How long a side is, and how many of it may be white.
        int[][] sides = {{7, 1}, {8, 2}, {9, 2}, {10, 2}, {11, 2}, {12, 3}, {23, 5}, {24, 6}};
        for (int[] side : sides) {
            for (int which = 0; which < 4; which++) {
                String name = names[which] + " of " + side[0];
                CHECK.same(name + " without " + side[1], FRAME, kindWithout(side[0], which, side[1]));
                CHECK.same(name + " without " + (side[1] + 1), TEXT, kindWithout(side[0], which, side[1] + 1));
            }
        }
    }

    private static void allFourMayHaveThreeQuartersAlone() {
        PageParts page = ring(8, 8);
        int left = leftOf(8);
        int top = topOf(8);
        page.fill(left + 3, top, 2, 1, false);
        page.fill(left + 3, top + 7, 2, 1, false);
        page.fill(left, top + 3, 1, 2, false);
        page.fill(left + 7, top + 3, 1, 2, false);
        CHECK.same("6 of 8 in each, parted without gaps: the first of four", TEXT, firstKind(page, 0, 0));
        CHECK.same("6 of 8 in each, smeared together", FRAME, firstKind(page, 2, 2));
    }

    private static void cornersAreOfARowAndOfAColumn() {
        int left = leftOf(8);
        int top = topOf(8);
        PageParts row = ring(8, 8);
        row.fill(left, top, 2, 1, false);
        CHECK.same("6 of 8 and 7 of 8", FRAME, firstKind(row, 0, 0));
        row.put(left + 2, top, false);
        CHECK.same("5 of 8 and 7 of 8", TEXT, firstKind(row, 0, 0));
        PageParts column = ring(8, 8);
        column.fill(left + 7, top + 6, 1, 2, false);
        CHECK.same("7 of 8 and 6 of 8", FRAME, firstKind(column, 0, 0));
        column.put(left + 7, top + 5, false);
        CHECK.same("7 of 8 and 5 of 8", TEXT, firstKind(column, 0, 0));
    }

    /** So many black ones within a ring, row by row, hanging at it. */
    private static PageParts ringWith(int wide, int high, int within) {
        PageParts page = ring(wide, high);
        int left = leftOf(wide) + 1;
        int top = topOf(high) + 1;
        int row = wide - 2;
        if (within >= row) {
            page.fill(left, top, row, within / row, true);
        }
        if (within % row > 0) {
            page.fill(left, top + within / row, within % row, 1, true);
        }
        return page;
    }

    private static void atMostAQuarterWithin() {
        // Within 7 by 7 are 25, 8 by 8: 36, 7 by 24: 110, 24 by 24: 484.
        int[][] due = {{7, 7, 6, FRAME}, {7, 7, 7, PICTURE}, {8, 8, 9, FRAME}, {8, 8, 10, PICTURE},
            {7, 24, 27, FRAME}, {7, 24, 28, PICTURE}, {24, 7, 27, FRAME}, {24, 7, 28, PICTURE},
            {20, 20, 81, FRAME}, {20, 20, 82, TEXT}, {24, 24, 121, FRAME}, {24, 24, 122, TEXT}};
        for (int[] one : due) {
            CHECK.same(one[0] + " by " + one[1] + " with " + one[2] + " within", one[3],
                    firstKind(ringWith(one[0], one[1], one[2]), 0, 0));
        }
    }

    private static void otherPartsWithinCountToo() {
        PageParts page = ring(24, 24);
        page.fill(5, 5, 11, 11, true);
        CHECK.same("121 of 484, of another part", FRAME, firstKind(page, 0, 0));
        CHECK.same("two parts", 2, page.told(3));
        page.put(16, 15, true);
        CHECK.same("122 of 484, of another part", TEXT, firstKind(page, 0, 0));
        CHECK.same("two parts", 2, page.told(3));
    }

    private static void specksAndGapsDoNotCount() {
        PageParts specks = ringWith(24, 24, 0);
        specks.fill(3, 3, 11, 9, true);
        specks.fill(3, 14, 11, 3, true);
        specks.noise(100);
        specks.run(0, 0);
        CHECK.same("the ring of 92 is a speck at noise 100", 0, specks.told(3));
        specks.noise(34);
        specks.run(0, 0);
        CHECK.same("99 of 484 within, 33 more are a speck", FRAME, specks.part(0, 5));
        specks.noise(33);
        specks.run(0, 0);
        CHECK.same("132 of 484 within", TEXT, specks.part(0, 5));
        PageParts gaps = ring(8, 8);
        CHECK.same("all within is ink, but white", FRAME, firstKind(gaps, 24, 24));
        CHECK.same("all within is ink", 64, gaps.part(0, 7));
        PageParts open = ring(8, 8);
        open.fill(leftOf(8) + 3, topOf(8), 3, 1, false);
        CHECK.same("a gap of a side is ink, but white", TEXT, firstKind(open, 24, 24));
    }

    private static void picturesAre7OrMoreEachWay() {
        block(6, 6, TEXT);
        block(6, 7, TEXT);
        block(6, 24, TEXT);
        block(7, 7, PICTURE);
        block(7, 8, PICTURE);
        block(7, 24, PICTURE);
        block(24, 24, PICTURE);
    }

    /** So many black ones in a box: its left column and lower row, and then columns from the left. */
    private static PageParts partly(int wide, int high, int samples) {
        PageParts page = new PageParts(24, 24);
        int left = leftOf(wide);
        int top = topOf(high);
        page.fill(left, top, 1, high, true);
        page.fill(left, top + high - 1, wide, 1, true);
        int more = samples - wide - high + 1;
        int column = high - 1;
        if (more >= column) {
            page.fill(left + 1, top, more / column, column, true);
        }
        if (more % column > 0) {
            page.fill(left + 1 + more / column, top + column - more % column, 1, more % column, true);
        }
        CHECK.same("drawn", samples, page.told(2));
        return page;
    }

    private static void atLeastHalfOfAPictureIsBlack() {
        // The least that is half of 49, 56, 64, 168, 576.
        int[][] due = {{7, 7, 25}, {7, 8, 28}, {8, 7, 28}, {8, 8, 32}, {7, 24, 84}, {24, 7, 84}, {24, 24, 288}};
        for (int[] one : due) {
            String name = one[0] + " by " + one[1] + " with " + one[2];
            CHECK.same(name, PICTURE, firstKind(partly(one[0], one[1], one[2]), 0, 0));
            CHECK.same(name + " less 1", TEXT, firstKind(partly(one[0], one[1], one[2] - 1), 0, 0));
        }
        PageParts smeared = partly(8, 8, 31);
        CHECK.same("ink of gaps is white", TEXT, firstKind(smeared, 24, 24));
        PageParts speckled = partly(8, 8, 31);
        speckled.put(leftOf(8) + 7, topOf(8), true);
        speckled.noise(2);
        speckled.run(0, 0);
        CHECK.same("a speck in the box is not clean", TEXT, speckled.part(0, 5));
    }

    private static void framesGoBeforePictures() {
        CHECK.same("30 of 49, 6 of 25 within", FRAME, firstKind(ringWith(7, 7, 6), 0, 0));
        CHECK.same("37 of 64, 9 of 36 within", FRAME, firstKind(ringWith(8, 8, 9), 0, 0));
    }
}
