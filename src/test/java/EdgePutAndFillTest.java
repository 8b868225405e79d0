/** Promises 2 and 3: what was another way, rectangles that go past the page, sides below 1. */
public final class EdgePutAndFillTest {
    private static final Check CHECK = new Check();
    private static final int MOST = Integer.MAX_VALUE;

    public static void main(String[] args) {
        putTellsWhetherItWasAnotherWay();
        putAtTheCorners();
        fillTellsHowManyWereAnotherWay();
        fillGoesAsFarAsThePageAcross();
        fillGoesAsFarAsThePageDown();
        fillFromTheLastSample();
        fillOfTheWholePage();
        fillOfTheLeastPage();
        sidesOf1AreAllowedAndSidesBelow1AreNot();
        CHECK.end();
    }

    private static void putTellsWhetherItWasAnotherWay() {
        PageParts page = new PageParts(1, 1);
        CHECK.same("white stays white", false, page.put(0, 0, false));
        CHECK.same("white becomes black", true, page.put(0, 0, true));
        CHECK.same("black stays black", false, page.put(0, 0, true));
        CHECK.same("one is black", 1, page.told(2));
        CHECK.same("black becomes white", true, page.put(0, 0, false));
        CHECK.same("none is black", 0, page.told(2));
    }

    private static void putAtTheCorners() {
        PageParts page = new PageParts(24, 24);
        int[][] corners = {{0, 0}, {23, 0}, {0, 23}, {23, 23}};
        for (int[] at : corners) {
            CHECK.same("put(" + at[0] + ", " + at[1] + ")", true, page.put(at[0], at[1], true));
        }
        CHECK.same("four are black", 4, page.told(2));
        page.noise(0);
        CHECK.same("each for itself", 4, page.run(0, 0));
        CHECK.same("the first", "0 0 1 1", Pages.box(page, 0));
        CHECK.same("the second", "23 0 1 1", Pages.box(page, 1));
        CHECK.same("the third", "0 23 1 1", Pages.box(page, 2));
        CHECK.same("the last", "23 23 1 1", Pages.box(page, 3));
    }

    private static void fillTellsHowManyWereAnotherWay() {
        PageParts page = new PageParts(3, 2);
        page.put(1, 1, true);
        CHECK.same("all but one", 5, page.fill(0, 0, 3, 2, true));
        CHECK.same("none", 0, page.fill(0, 0, 3, 2, true));
        page.put(2, 0, false);
        CHECK.same("all but one, white", 5, page.fill(0, 0, 3, 2, false));
        CHECK.same("none, white", 0, page.fill(0, 0, 3, 2, false));
    }

    private static void fillGoesAsFarAsThePageAcross() {
        int[] widths = {3, 4, 5, 24, 25, MOST - 20, MOST - 19, MOST};
        int[] due = {3, 4, 4, 4, 4, 4, 4, 4};
        for (int i = 0; i < widths.length; i++) {
            PageParts page = new PageParts(24, 3);
            CHECK.same("fill(20, 1, " + widths[i] + ", 1)", due[i], page.fill(20, 1, widths[i], 1, true));
            CHECK.same("no more is black", due[i], page.told(2));
            CHECK.same("not the row below", 0, page.fill(0, 2, 24, 1, false));
        }
        PageParts narrow = new PageParts(5, 3);
        CHECK.same("past a narrow page", 2, narrow.fill(3, 0, 20, 1, true));
        CHECK.same("to its edge", 2, narrow.fill(3, 1, 2, 1, true));
        CHECK.same("one before its edge", 1, narrow.fill(3, 2, 1, 1, true));
    }

    private static void fillGoesAsFarAsThePageDown() {
        int[] heights = {3, 4, 5, 24, 25, MOST - 20, MOST - 19, MOST};
        int[] due = {3, 4, 4, 4, 4, 4, 4, 4};
        for (int i = 0; i < heights.length; i++) {
            PageParts page = new PageParts(3, 24);
            CHECK.same("fill(1, 20, 1, " + heights[i] + ")", due[i], page.fill(1, 20, 1, heights[i], true));
            CHECK.same("no more is black", due[i], page.told(2));
        }
        PageParts low = new PageParts(3, 5);
        CHECK.same("past a low page", 2, low.fill(0, 3, 1, 20, true));
        CHECK.same("to its edge", 2, low.fill(1, 3, 1, 2, true));
        CHECK.same("one before its edge", 1, low.fill(2, 3, 1, 1, true));
    }

    private static void fillFromTheLastSample() {
        PageParts page = new PageParts(24, 24);
        CHECK.same("1 by 1", 1, page.fill(23, 23, 1, 1, true));
        CHECK.same("the greatest sides", 1, page.fill(23, 23, MOST, MOST, false));
        CHECK.same("none is black", 0, page.told(2));
    }

    private static void fillOfTheWholePage() {
        PageParts page = new PageParts(24, 24);
        CHECK.same("its sides", 576, page.fill(0, 0, 24, 24, true));
        CHECK.same("all are black", 576, page.told(2));
        CHECK.same("the greatest sides", 576, page.fill(0, 0, MOST, MOST, false));
        CHECK.same("from 1, 1 on", 529, page.fill(1, 1, MOST, MOST, true));
        CHECK.same("those are black", 529, page.told(2));
    }

    private static void fillOfTheLeastPage() {
        PageParts page = new PageParts(1, 1);
        CHECK.same("1 by 1", 1, page.fill(0, 0, 1, 1, true));
        CHECK.same("again", 0, page.fill(0, 0, 1, 1, true));
        CHECK.same("the greatest sides", 1, page.fill(0, 0, MOST, MOST, false));
    }

    private static void sidesOf1AreAllowedAndSidesBelow1AreNot() {
        PageParts page = new PageParts(4, 4);
        CHECK.same("1 wide", 4, page.fill(0, 0, 1, 4, true));
        CHECK.same("1 high", 3, page.fill(0, 0, 4, 1, true));
        int[] below = {0, -1, -4, Integer.MIN_VALUE};
        for (int side : below) {
            CHECK.badArgument(side + " wide", () -> page.fill(0, 0, side, 1, false));
            CHECK.badArgument(side + " high", () -> page.fill(0, 0, 1, side, false));
            CHECK.badArgument(side + " each way", () -> page.fill(3, 3, side, side, true));
        }
        CHECK.same("all is as it was", 7, page.told(2));
    }
}
