public final class Promise06PartTest {
    private static final Check CHECK = new Check();
    private static final int TEXT = 0;
    private static final int RULE = 1;
    private static final int PICTURE = 2;
    private static final int FRAME = 3;

    public static void main(String[] args) {
        allThatIsTold();
        wrongInputs();
        rules();
        frames();
        framesCountAllCleanBlack();
        pictures();
        rulesGoBeforeTheOthers();
        CHECK.end();
    }

    private static void allThatIsTold() {
        PageParts page = Pages.parted(1, 1, "......", ".#.#..", "......", "...#..", ".....#");
        CHECK.same("map", "....../.aaa../...a../...a../.....b/", Pages.partsMap(page));
        int[] due = {1, 1, 3, 3, 3, TEXT, 2, 5};
        int[] dueSecond = {5, 4, 1, 1, 1, TEXT, 1, 1};
        for (int what = 0; what < 8; what++) {
            CHECK.same("part(0, " + what + ")", due[what], page.part(0, what));
            CHECK.same("part(1, " + what + ")", dueSecond[what], page.part(1, what));
        }
        PageParts numbers = Pages.parted(0, 0, "...#", "#..#", "####", "....", "#...");
        CHECK.same("the box goes left of the first sample", "0 0 4 3", Pages.box(numbers, 0));
        CHECK.same("the next", "0 4 1 1", Pages.box(numbers, 1));
    }

    private static void wrongInputs() {
        PageParts page = Pages.draw("#..", "..#");
        page.noise(0);
        CHECK.badState("not parted", () -> page.part(0, 0));
        CHECK.badState("the first one of three", () -> page.part(-1, 99));
        page.run(0, 0);
        CHECK.indexOut("part -1", () -> page.part(-1, 0));
        CHECK.indexOut("part 2", () -> page.part(2, 0));
        CHECK.indexOut("the first one of two", () -> page.part(2, 8));
        CHECK.indexOut("far", () -> page.part(Integer.MAX_VALUE, 0));
        CHECK.badArgument("what -1", () -> page.part(0, -1));
        CHECK.badArgument("what 8", () -> page.part(1, 8));
        CHECK.badArgument("what far", () -> page.part(1, Integer.MIN_VALUE));
        page.put(0, 0, true);
        CHECK.badState("changed since", () -> page.part(0, 0));
    }

    private static int kindOfBlock(int wide, int high) {
        PageParts page = new PageParts(24, 24);
        page.noise(0);
        page.fill(1, 1, wide, high, true);
        page.run(0, 0);
        return page.part(0, 5);
    }

    private static void rules() {
        int[][] due = {{1, 1, TEXT}, {4, 1, TEXT}, {5, 1, RULE}, {23, 1, RULE}, {9, 2, TEXT}, {10, 2, RULE}, {11, 2, RULE},
            {15, 3, TEXT}, {23, 3, TEXT}, {2, 2, TEXT}, {6, 6, TEXT}};
        for (int[] one : due) {
            CHECK.same(one[0] + " by " + one[1], one[2], kindOfBlock(one[0], one[1]));
            CHECK.same(one[1] + " by " + one[0], one[2], kindOfBlock(one[1], one[0]));
        }
    }

    /** A hollow rectangle from 1, 1 on. */
    private static PageParts hollow(int wide, int high) {
        PageParts page = new PageParts(24, 24);
        page.noise(0);
        page.fill(1, 1, wide, high, true);
        page.fill(2, 2, wide - 2, high - 2, false);
        return page;
    }

    private static int firstKind(PageParts page, int gapX, int gapY) {
        page.run(gapX, gapY);
        return page.part(0, 5);
    }

    private static void frames() {
        CHECK.same("7 by 7", FRAME, firstKind(hollow(7, 7), 0, 0));
        CHECK.same("6 by 7", TEXT, firstKind(hollow(6, 7), 0, 0));
        CHECK.same("7 by 6", TEXT, firstKind(hollow(7, 6), 0, 0));
        CHECK.same("22 by 9", FRAME, firstKind(hollow(22, 9), 0, 0));
        int[][] sides = {{4, 1, 1, 0}, {4, 8, 1, 0}, {1, 4, 0, 1}, {8, 4, 0, 1}};
        for (int[] side : sides) {
            PageParts page = hollow(8, 8);
            page.put(side[0], side[1], false);
            page.put(side[0] + side[2], side[1] + side[3], false);
            CHECK.same("6 of 8 are three quarters", FRAME, firstKind(page, 2, 2));
            page.put(side[0] - side[2], side[1] - side[3], false);
            CHECK.same("5 of 8 are not", TEXT, firstKind(page, 3, 3));
        }
    }

    private static void framesCountAllCleanBlack() {
        // Within 8 by 8 are 36 samples: 9 may be black, though they are of other parts.
        PageParts page = hollow(8, 8);
        page.fill(3, 3, 3, 3, true);
        CHECK.same("9 of 36 within", FRAME, firstKind(page, 0, 0));
        page.put(6, 5, true);
        CHECK.same("10 of 36 within: more than half is black", PICTURE, firstKind(page, 0, 0));
        PageParts great = hollow(22, 22);
        great.fill(5, 5, 10, 10, true);
        CHECK.same("100 of 400 within", FRAME, firstKind(great, 0, 0));
        great.put(15, 14, true);
        CHECK.same("101 of 400 within", TEXT, firstKind(great, 0, 0));
    }

    private static void pictures() {
        CHECK.same("7 by 7", PICTURE, kindOfBlock(7, 7));
        CHECK.same("6 by 23", TEXT, kindOfBlock(6, 23));
        PageParts page = new PageParts(12, 12);
        page.noise(0);
        page.fill(0, 0, 8, 4, true);
        page.put(0, 4, true);
        page.fill(0, 5, 1, 3, true);
        page.fill(4, 0, 4, 1, false);
        CHECK.same("32 of 64", PICTURE, firstKind(page, 0, 0));
        page.put(3, 0, false);
        CHECK.same("31 of 64", TEXT, firstKind(page, 0, 0));
        page.put(6, 6, true);
        CHECK.same("32 of 64, one of another part", PICTURE, firstKind(page, 0, 0));
    }

    private static void rulesGoBeforeTheOthers() {
        PageParts page = Pages.parted(24, 24, "#########.", "..........");
        CHECK.same("a rule", RULE, page.part(0, 5));
        PageParts thin = Pages.parted(24, 0, "#........#");
        CHECK.same("a rule by its box", RULE, thin.part(0, 5));
    }
}
