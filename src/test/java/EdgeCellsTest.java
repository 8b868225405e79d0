/** Terms: CELLS are "groups of samples that are not clean black, and do not come to the page's edge"; promise 12. */
public final class EdgeCellsTest {
    private static final Check CHECK = new Check();

    public static void main(String[] args) {
        oneSampleIsEnough();
        whatComesToAnEdgeIsNone();
        oneAwayFromEachEdge();
        groupsHangTogetherBySidesAlone();
        numbersGoByFirstSamples();
        boxAndSamples();
        specksAndInkAreNotCleanBlack();
        asManyAsCanBe();
        whiteAndBlackPages();
        onlyCellsAndWhatsThatThereAre();
        CHECK.end();
    }

    private static void due(String name, String[] rows, String... cells) {
        dueOf(name, Pages.parted(0, 0, rows), cells);
    }

    private static void dueOf(String name, PageParts page, String... cells) {
        CHECK.same(name + ": how many", cells.length, page.told(6));
        for (int k = 0; k < cells.length && k < page.told(6); k++) {
            CHECK.same(name + ": cell " + k, cells[k], Pages.cell(page, k));
        }
        CHECK.indexOut(name + ": one more", () -> page.cell(cells.length, 0));
    }

    private static String[] rows(String... rows) {
        return rows;
    }

    private static void oneSampleIsEnough() {
        due("closed by sides and corners", rows("###", "#.#", "###"), "1 1 1 1 1");
        due("closed by sides alone", rows(".#.", "#.#", ".#."), "1 1 1 1 1");
    }

    private static void whatComesToAnEdgeIsNone() {
        due("above", rows("##.##", "##.##", "#####", "#####"));
        due("below", rows("#####", "#####", "##.##", "##.##"));
        due("left", rows("####", "####", "..##", "####", "####"));
        due("right", rows("####", "####", "##..", "####", "####"));
        due("in the corners", rows(".##.", "####", "####", ".##."));
        due("by a long way", rows("#####", "#...#", "###.#", "#...#", "#.###"));
        due("with one sample of many", rows("######", "#....#", "#.....", "#....#", "######"));
    }

    private static void oneAwayFromEachEdge() {
        due("above and left", rows("####", "#.##", "####", "####"), "1 1 1 1 1");
        due("below and right", rows("####", "####", "##.#", "####"), "2 2 1 1 1");
        PageParts page = new PageParts(24, 24);
        page.fill(0, 0, 24, 24, true);
        page.fill(1, 1, 22, 22, false);
        page.run(0, 0);
        dueOf("the greatest", page, "1 1 22 22 484");
    }

    private static void groupsHangTogetherBySidesAlone() {
        due("two that a corner joins", rows("####", "#.##", "##.#", "####"), "1 1 1 1 1", "2 2 1 1 1");
        due("a corner is no way out", rows("###.", "##.#", "#.##", "####"), "2 1 1 1 1", "1 2 1 1 1");
    }

    private static void numbersGoByFirstSamples() {
        due("row by row", rows("#######", "####.##", "#.#####", "#######", "###.###", "#######"),
                "4 1 1 1 1", "1 2 1 1 1", "3 4 1 1 1");
        due("by the first sample, not by the box's corner", rows("######", "#.##.#", "####.#", "##...#", "######"),
                "1 1 1 1 1", "2 1 3 3 5");
        due("those at the edge do not count", rows(".####", "###.#", "#.###", "##.##", "####."),
                "3 1 1 1 1", "1 2 1 1 1", "2 3 1 1 1");
    }

    private static void boxAndSamples() {
        due("behind a greater one at the edge", rows("....##", ".#####", "##...#", "######"), "2 2 3 1 3");
        due("behind a smaller one at the edge", rows(".#####", "##...#", "##...#", "######"), "2 1 3 2 6");
        due("a bent one", rows("#####", "#.###", "#...#", "###.#", "#####"), "1 1 3 3 5");
        due("one round another part", rows("#####", "#...#", "#.#.#", "#...#", "#####"), "1 1 3 3 8");
    }

    private static void specksAndInkAreNotCleanBlack() {
        String[] rows = rows("#####", "#...#", "#.#.#", "#...#", "#####");
        PageParts specks = Pages.draw(rows);
        specks.run(0, 0);
        dueOf("a speck within", specks, "1 1 3 3 9");
        dueOf("gaps within", Pages.parted(24, 24, rows), "1 1 3 3 8");
        PageParts open = Pages.parted(24, 24, "##.##", "#...#", "#####");
        CHECK.same("the way out is ink", 0, open.partOf(2, 0));
        dueOf("but not clean black", open);
        PageParts bar = Pages.draw("####.", "#..#.", "#..#.", "####.");
        bar.noise(13);
        bar.run(0, 0);
        dueOf("what is a speck closes nothing in", bar);
        bar.noise(12);
        bar.run(0, 0);
        dueOf("what is none does", bar, "1 1 2 2 4");
    }

    private static void asManyAsCanBe() {
        PageParts page = new PageParts(24, 24);
        page.fill(0, 0, 24, 24, true);
        for (int y = 1; y < 23; y++) {
            for (int x = 2 - y % 2; x < 23; x += 2) {
                page.put(x, y, false);
            }
        }
        page.run(0, 0);
        CHECK.same("how many", 242, page.told(6));
        CHECK.same("the first", "1 1 1 1 1", Pages.cell(page, 0));
        CHECK.same("the last of the first row", "21 1 1 1 1", Pages.cell(page, 10));
        CHECK.same("the first of the second row", "2 2 1 1 1", Pages.cell(page, 11));
        CHECK.same("the last", "22 22 1 1 1", Pages.cell(page, 241));
        CHECK.indexOut("one more", () -> page.cell(242, 0));
    }

    private static void whiteAndBlackPages() {
        int[] sides = {1, 2, 3, 24};
        for (int side : sides) {
            PageParts page = new PageParts(side, side);
            page.run(0, 0);
            dueOf("white, side " + side, page);
            page.fill(0, 0, side, side, true);
            page.noise(0);
            page.run(0, 0);
            dueOf("black, side " + side, page);
        }
    }

    private static void onlyCellsAndWhatsThatThereAre() {
        PageParts page = Pages.parted(0, 0, "#####", "#####", "#...#", "##..#", "#####");
        int[] due = {1, 2, 3, 2, 5};
        for (int what = 0; what < due.length; what++) {
            CHECK.same("cell(0, " + what + ")", due[what], page.cell(0, what));
        }
        int[] others = {Integer.MIN_VALUE, -1, 5, 6, Integer.MAX_VALUE};
        for (int what : others) {
            CHECK.badArgument("cell(0, " + what + ")", () -> page.cell(0, what));
        }
        int[] none = {Integer.MIN_VALUE, -1, 1, 2, Integer.MAX_VALUE};
        for (int k : none) {
            CHECK.indexOut("cell(" + k + ", 0)", () -> page.cell(k, 0));
        }
    }
}
