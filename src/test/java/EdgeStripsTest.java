/** Terms: STRIPS are "columns of the page, one beside the other, as many as can be, that each have ink"; promise 11. */
public final class EdgeStripsTest {
    private static final Check CHECK = new Check();

    public static void main(String[] args) {
        atBothEdges();
        ofOneColumnAndOfAll();
        asManyAsCanBe();
        anyRowWillDo();
        inkOfGapsAndSpecks();
        whiteAndBlackPages();
        onlyColumnsThatThereAre();
        CHECK.end();
    }

    private static void due(String name, String strips, int count, PageParts page) {
        CHECK.same(name + ": how many", count, page.told(5));
        CHECK.same(name, strips, Pages.strips(page));
    }

    private static void atBothEdges() {
        due("the first and the last column", "0---1", 2, Pages.parted(0, 0, "#...#"));
        due("neither", "-0-1-", 2, Pages.parted(0, 0, ".#.#."));
    }

    private static void ofOneColumnAndOfAll() {
        due("one column", "-0-", 1, Pages.parted(0, 0, ".#."));
        due("columns side by side", "-000-1", 2, Pages.parted(0, 0, ".###.#"));
        due("all columns", "0000", 1, Pages.parted(0, 0, "####"));
        due("a page of one column", "0", 1, Pages.parted(0, 0, "#"));
    }

    private static void asManyAsCanBe() {
        PageParts page = new PageParts(24, 24);
        for (int x = 0; x < 24; x += 2) {
            page.fill(x, 0, 1, 24, true);
        }
        page.run(0, 0);
        due("twelve", "0-1-2-3-4-5-6-7-8-9-10-11-", 12, page);
    }

    private static void anyRowWillDo() {
        due("in the first, a middle and the last row", "000", 1, Pages.parted(0, 0, "#..", ".#.", "..#"));
        PageParts last = new PageParts(24, 24);
        last.put(5, 23, true);
        last.noise(0);
        last.run(0, 0);
        PageParts narrow = new PageParts(2, 24);
        narrow.put(1, 23, true);
        narrow.noise(0);
        narrow.run(0, 0);
        due("the last row of a narrow page", "-0", 1, narrow);
        CHECK.same("the last row alone", 0, last.strip(5));
        CHECK.same("not the column beside", PageParts.NONE, last.strip(6));
        CHECK.same("nor the one before", PageParts.NONE, last.strip(4));
    }

    private static void inkOfGapsAndSpecks() {
        due("a gap that is ink", "0000", 1, Pages.parted(2, 0, "#..#"));
        due("a gap that is not", "0--1", 2, Pages.parted(1, 0, "#..#"));
        PageParts specks = Pages.draw("##.###.#");
        specks.run(0, 0);
        due("specks are no ink", "---000--", 1, specks);
    }

    private static void whiteAndBlackPages() {
        due("white, 1 by 1", "-", 0, Pages.parted(0, 0, "."));
        PageParts page = new PageParts(24, 24);
        page.run(0, 0);
        due("white, 24 by 24", "------------------------", 0, page);
        page.fill(0, 0, 24, 24, true);
        page.run(0, 0);
        due("black, 24 by 24", "000000000000000000000000", 1, page);
    }

    private static void onlyColumnsThatThereAre() {
        PageParts page = Pages.parted(0, 0, "#.#", "...");
        int[] none = {Integer.MIN_VALUE, -1, 3, 4, 23, 24, Integer.MAX_VALUE};
        for (int x : none) {
            CHECK.indexOut("strip(" + x + ")", () -> page.strip(x));
        }
        PageParts great = new PageParts(24, 1);
        great.run(0, 0);
        CHECK.same("the last of 24", PageParts.NONE, great.strip(23));
        CHECK.indexOut("the next", () -> great.strip(24));
    }
}
