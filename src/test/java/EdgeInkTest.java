/** Terms: INK, "with not more than gapX that are not between these; .. likewise with gapY"; promise 5. */
public final class EdgeInkTest {
    private static final Check CHECK = new Check();

    public static void main(String[] args) {
        eachGapFrom0To24IsAllowed();
        othersAreNot();
        asManyAsGapXAndOneMore();
        asManyAsGapYAndOneMore();
        gapsOf0AddNothing();
        bothSidesAreNeeded();
        theNearestOnEachSideCount();
        inkIsNoCleanBlack();
        specksAreNot();
        rowsDoNotGoOnInTheNextRow();
        inTheLastRowsAndColumns();
        whiteAndBlackPages();
        CHECK.end();
    }

    private static void eachGapFrom0To24IsAllowed() {
        PageParts page = Pages.draw("#");
        page.noise(0);
        for (int gap = 0; gap <= 24; gap++) {
            CHECK.same("run(" + gap + ", 0)", 1, page.run(gap, 0));
            CHECK.same("run(0, " + gap + ")", 1, page.run(0, gap));
            CHECK.same("run(" + gap + ", " + gap + ")", 1, page.run(gap, gap));
        }
    }

    private static void othersAreNot() {
        PageParts page = new PageParts(24, 24);
        int[] others = {Integer.MIN_VALUE, -24, -1, 25, 26, 256, Integer.MAX_VALUE};
        for (int gap : others) {
            CHECK.badArgument("run(" + gap + ", 0)", () -> page.run(gap, 0));
            CHECK.badArgument("run(0, " + gap + ")", () -> page.run(0, gap));
            CHECK.badArgument("run(24, " + gap + ")", () -> page.run(24, gap));
            CHECK.badArgument("run(" + gap + ", 24)", () -> page.run(gap, 24));
            CHECK.badArgument("run(" + gap + ", " + gap + ")", () -> page.run(gap, gap));
        }
        CHECK.same("still not parted", PageParts.NONE, page.told(3));
    }

    private static PageParts twoAcross(int between) {
        PageParts page = new PageParts(24, 24);
        page.noise(0);
        page.put(0, 5, true);
        page.put(between + 1, 5, true);
        return page;
    }

    private static void asManyAsGapXAndOneMore() {
        for (int gap = 1; gap <= 22; gap++) {
            PageParts page = twoAcross(gap);
            CHECK.same(gap + " between, gap " + gap, 1, page.run(gap, 0));
            CHECK.same("all between are ink", gap + 2, page.part(0, 7));
            CHECK.same("the first between", 0, page.partOf(1, 5));
            CHECK.same("the last between", 0, page.partOf(gap, 5));
            CHECK.same("a gap to spare", 1, page.run(24, 0));
            CHECK.same(gap + " between, gap " + (gap - 1), 2, page.run(gap - 1, 0));
            CHECK.same("none between is ink", PageParts.NONE, page.partOf(1, 5));
            CHECK.same("the other gap is not for rows", 2, page.run(gap - 1, 24));
        }
    }

    private static PageParts twoDown(int between) {
        PageParts page = new PageParts(24, 24);
        page.noise(0);
        page.put(5, 0, true);
        page.put(5, between + 1, true);
        return page;
    }

    private static void asManyAsGapYAndOneMore() {
        for (int gap = 1; gap <= 22; gap++) {
            PageParts page = twoDown(gap);
            CHECK.same(gap + " between, gap " + gap, 1, page.run(0, gap));
            CHECK.same("all between are ink", gap + 2, page.part(0, 7));
            CHECK.same("the first between", 0, page.partOf(5, 1));
            CHECK.same("the last between", 0, page.partOf(5, gap));
            CHECK.same("a gap to spare", 1, page.run(0, 24));
            CHECK.same(gap + " between, gap " + (gap - 1), 2, page.run(0, gap - 1));
            CHECK.same("none between is ink", PageParts.NONE, page.partOf(5, 1));
            CHECK.same("the other gap is not for columns", 2, page.run(24, gap - 1));
        }
    }

    private static void gapsOf0AddNothing() {
        CHECK.same("ink is clean black", "aa.b/..../c.dd/",
                Pages.partsMap(Pages.parted(0, 0, "##.#", "....", "#.##")));
    }

    private static void bothSidesAreNeeded() {
        CHECK.same("at the left edge", "..a/", Pages.partsMap(Pages.parted(24, 24, "..#")));
        CHECK.same("at the right edge", "a../", Pages.partsMap(Pages.parted(24, 24, "#..")));
        CHECK.same("at the upper edge", "././a/", Pages.partsMap(Pages.parted(24, 24, ".", ".", "#")));
        CHECK.same("at the lower edge", "a/././", Pages.partsMap(Pages.parted(24, 24, "#", ".", ".")));
        CHECK.same("one beside, one below", "a../.../..b/", Pages.partsMap(Pages.parted(24, 24, "#..", "...", "..#")));
    }

    private static void theNearestOnEachSideCount() {
        CHECK.same("one gap is short, the other long", "aaa..b/", Pages.partsMap(Pages.parted(1, 0, "#.#..#")));
        CHECK.same("the other way round", "a..bbb/", Pages.partsMap(Pages.parted(1, 0, "#..#.#")));
        CHECK.same("short ones, one beside the other", "aaaaaaa/", Pages.partsMap(Pages.parted(1, 0, "#.#.#.#")));
        CHECK.same("down", "a/a/a/././b/", Pages.partsMap(Pages.parted(0, 1, "#", ".", "#", ".", ".", "#")));
    }

    private static void inkIsNoCleanBlack() {
        // Were the ink of row 0 clean black, column 1 would be smeared down to row 2.
        CHECK.same("rows before columns", "aaa/.../.b./", Pages.partsMap(Pages.parted(1, 1, "#.#", "...", ".#.")));
        // Were the ink of column 0 clean black, row 1 would be smeared to column 2.
        CHECK.same("columns before rows", "a../a.b/a../", Pages.partsMap(Pages.parted(1, 1, "#..", "..#", "#..")));
    }

    private static void specksAreNot() {
        PageParts page = Pages.draw("###.#.###");
        CHECK.same("3 that are not between", 1, page.run(3, 0));
        CHECK.same("the speck is ink", 0, page.partOf(4, 0));
        CHECK.same("and still a speck", true, page.isSpeck(4, 0));
        CHECK.same("3 are more than 2", 2, page.run(2, 0));
        CHECK.same("the speck is no ink", PageParts.NONE, page.partOf(4, 0));
        PageParts beside = Pages.draw("###.##");
        beside.run(24, 24);
        CHECK.same("nothing is smeared to a speck", "aaa.../", Pages.partsMap(beside));
        PageParts down = Pages.draw("#..", "#..", "#..", "...", "#.#", "...", "#..", "#..", "#..");
        CHECK.same("3 that are not, down", 1, down.run(0, 3));
        CHECK.same("3 are more than 2, down", 2, down.run(0, 2));
    }

    private static void rowsDoNotGoOnInTheNextRow() {
        PageParts rows = new PageParts(24, 24);
        rows.noise(0);
        rows.put(22, 0, true);
        rows.put(1, 1, true);
        CHECK.same("two parts", 2, rows.run(24, 0));
        CHECK.same("at the end of the row", PageParts.NONE, rows.partOf(23, 0));
        CHECK.same("at the start of the next", PageParts.NONE, rows.partOf(0, 1));
        PageParts columns = new PageParts(24, 24);
        columns.noise(0);
        columns.put(0, 22, true);
        columns.put(1, 1, true);
        CHECK.same("two parts", 2, columns.run(0, 24));
        CHECK.same("at the end of the column", PageParts.NONE, columns.partOf(0, 23));
        CHECK.same("at the start of the next", PageParts.NONE, columns.partOf(1, 0));
    }

    private static void inTheLastRowsAndColumns() {
        PageParts narrow = new PageParts(3, 24);
        narrow.noise(0);
        narrow.put(0, 23, true);
        narrow.put(2, 23, true);
        CHECK.same("the last row of a narrow page", 1, narrow.run(1, 0));
        PageParts low = new PageParts(24, 3);
        low.noise(0);
        low.put(23, 0, true);
        low.put(23, 2, true);
        CHECK.same("the last column of a low page", 1, low.run(0, 1));
    }

    private static void whiteAndBlackPages() {
        int[] sides = {1, 24};
        for (int side : sides) {
            PageParts page = new PageParts(side, side);
            page.noise(0);
            CHECK.same("white", 0, page.run(0, 0));
            CHECK.same("white, the widest gaps", 0, page.run(24, 24));
            page.fill(0, 0, side, side, true);
            CHECK.same("black", 1, page.run(0, 0));
            CHECK.same("black, all is ink", side * side, page.part(0, 7));
            CHECK.same("black, the widest gaps", 1, page.run(24, 24));
            CHECK.same("black, all is ink", side * side, page.part(0, 7));
        }
    }
}
