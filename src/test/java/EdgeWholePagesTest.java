/** The least and the greatest page, all white and all black: whatever there is to ask. */
public final class EdgeWholePagesTest {
    private static final Check CHECK = new Check();

    public static void main(String[] args) {
        theLeastPageWhite();
        theLeastPageBlack();
        theLeastPageASpeck();
        theGreatestPageWhite();
        theGreatestPageBlack();
        theGreatestPageBlackButForOne();
        theGreatestPageWhiteButForOne();
        oneRowAndOneColumn();
        blackAndWhiteInTurns();
        CHECK.end();
    }

    private static PageParts page(int width, int height, boolean black, int noise) {
        PageParts page = new PageParts(width, height);
        page.noise(noise);
        if (black) {
            page.fill(0, 0, width, height, true);
        }
        return page;
    }

    private static void nothingIsThere(PageParts page) {
        CHECK.indexOut("part", () -> page.part(0, 0));
        CHECK.indexOut("line", () -> page.line(0, 0, 0));
        CHECK.indexOut("order", () -> page.order(0));
        CHECK.indexOut("cell", () -> page.cell(0, 0));
        CHECK.same("partOf", PageParts.NONE, page.partOf(0, 0));
        CHECK.same("strip", PageParts.NONE, page.strip(0));
    }

    private static void theLeastPageWhite() {
        PageParts page = page(1, 1, false, 3);
        CHECK.same("run", 0, page.run(0, 0));
        CHECK.same("told", "1 1 0 0 0 0 0 0", Pages.told(page));
        nothingIsThere(page);
        CHECK.indexOut("cover", () -> page.cover(0, 0));
        CHECK.same("isSpeck", false, page.isSpeck(0, 0));
        CHECK.same("run, the widest gaps", 0, page.run(24, 24));
        nothingIsThere(page);
    }

    private static void theLeastPageBlack() {
        PageParts page = page(1, 1, true, 1);
        CHECK.same("run", 1, page.run(0, 0));
        CHECK.same("told", "1 1 1 1 0 1 0 0", Pages.told(page));
        CHECK.same("part", "0 0 1 1 1 0 1 1", Pages.part(page, 0));
        CHECK.same("line", "0 1", Pages.line(page, 0, 0));
        CHECK.same("order", 0, page.order(0));
        CHECK.same("partOf", 0, page.partOf(0, 0));
        CHECK.same("strip", 0, page.strip(0));
        CHECK.same("isSpeck", false, page.isSpeck(0, 0));
        CHECK.indexOut("another part", () -> page.part(1, 0));
        CHECK.indexOut("another line", () -> page.line(0, 1, 0));
        CHECK.indexOut("another place", () -> page.order(1));
        CHECK.indexOut("another column", () -> page.strip(1));
        CHECK.indexOut("cover", () -> page.cover(0, 0));
        CHECK.indexOut("cell", () -> page.cell(0, 0));
    }

    private static void theLeastPageASpeck() {
        PageParts page = page(1, 1, true, 3);
        CHECK.same("run", 0, page.run(24, 24));
        CHECK.same("told", "1 1 1 0 0 0 0 1", Pages.told(page));
        nothingIsThere(page);
        CHECK.same("isSpeck", true, page.isSpeck(0, 0));
    }

    private static void theGreatestPageWhite() {
        PageParts page = page(24, 24, false, 0);
        CHECK.same("run", 0, page.run(24, 24));
        CHECK.same("told", "24 24 0 0 1 0 0 0", Pages.told(page));
        nothingIsThere(page);
        CHECK.same("cover", "0 0 24 24", Pages.cover(page, 0));
        CHECK.indexOut("another cover", () -> page.cover(1, 0));
        CHECK.same("isSpeck", false, page.isSpeck(23, 23));
        CHECK.same("partOf", PageParts.NONE, page.partOf(23, 23));
    }

    private static void theGreatestPageBlack() {
        PageParts page = page(24, 24, true, 100);
        CHECK.same("run", 1, page.run(24, 24));
        CHECK.same("told", "24 24 576 1 0 1 0 0", Pages.told(page));
        CHECK.same("part", "0 0 24 24 576 2 1 576", Pages.part(page, 0));
        CHECK.same("line", "0 24", Pages.line(page, 0, 0));
        CHECK.same("order", 0, page.order(0));
        CHECK.same("partOf", 0, page.partOf(23, 23));
        CHECK.same("strip", 0, page.strip(23));
        CHECK.same("isSpeck", false, page.isSpeck(23, 23));
        CHECK.indexOut("cover", () -> page.cover(0, 0));
        CHECK.indexOut("cell", () -> page.cell(0, 0));
        CHECK.indexOut("another sample", () -> page.partOf(24, 23));
        CHECK.indexOut("another sample", () -> page.isSpeck(23, 24));
    }

    private static void theGreatestPageBlackButForOne() {
        PageParts page = page(24, 24, true, 100);
        page.put(1, 22, false);
        page.run(0, 0);
        CHECK.same("within: a cell", "24 24 575 1 0 1 1 0", Pages.told(page));
        CHECK.same("the cell", "1 22 1 1 1", Pages.cell(page, 0));
        CHECK.same("the part", "0 0 24 24 575 2 1 575", Pages.part(page, 0));
        page.run(1, 0);
        CHECK.same("smeared over, the cell is there", "24 24 575 1 0 1 1 0", Pages.told(page));
        CHECK.same("and the part has more ink", "0 0 24 24 575 2 1 576", Pages.part(page, 0));
        page.put(1, 22, true);
        page.put(23, 23, false);
        page.run(24, 24);
        CHECK.same("at the corner: no cell", "24 24 575 1 0 1 0 0", Pages.told(page));
        CHECK.same("and no ink", PageParts.NONE, page.partOf(23, 23));
    }

    private static void theGreatestPageWhiteButForOne() {
        PageParts page = page(24, 24, false, 1);
        page.put(23, 23, true);
        CHECK.same("run", 1, page.run(24, 24));
        CHECK.same("told", "24 24 1 1 2 1 0 0", Pages.told(page));
        CHECK.same("the part", "23 23 1 1 1 0 1 1", Pages.part(page, 0));
        CHECK.same("the upper rows", "0 0 24 23", Pages.cover(page, 0));
        CHECK.same("the last row", "0 23 23 1", Pages.cover(page, 1));
        CHECK.same("the column before", PageParts.NONE, page.strip(22));
        CHECK.same("its column", 0, page.strip(23));
    }

    private static void oneRowAndOneColumn() {
        PageParts row = page(24, 1, true, 24);
        row.run(0, 0);
        CHECK.same("a row is a rule", "0 0 24 1 24 1 1 24", Pages.part(row, 0));
        CHECK.same("told", "24 1 24 1 0 1 0 0", Pages.told(row));
        PageParts column = page(1, 24, true, 24);
        column.run(0, 0);
        CHECK.same("a column is a rule", "0 0 1 24 24 1 1 24", Pages.part(column, 0));
        CHECK.same("its line", "0 24", Pages.line(column, 0, 0));
        CHECK.same("told", "1 24 24 1 0 1 0 0", Pages.told(column));
        column.noise(25);
        column.run(0, 0);
        CHECK.same("24 are less than 25", "1 24 24 0 1 0 0 24", Pages.told(column));
    }

    private static void blackAndWhiteInTurns() {
        PageParts page = Pages.chess(24, 24);
        page.run(0, 0);
        CHECK.same("one group by corners, so no speck; each white within is a cell", "24 24 288 288 0 1 242 0",
                Pages.told(page));
        page.run(1, 0);
        CHECK.same("smeared across, the rows hang together", "24 24 288 1 0 1 242 0", Pages.told(page));
        CHECK.same("the ends of the rows stay white", "0 0 24 24 288 2 1 552", Pages.part(page, 0));
        page.noise(0);
        page.run(0, 1);
        CHECK.same("smeared down", "24 24 288 1 0 1 242 0", Pages.told(page));
        CHECK.same("the ends of the columns stay white", "0 0 24 24 288 2 1 552", Pages.part(page, 0));
        page.run(1, 1);
        CHECK.same("both ways, two corners stay white", 574, page.part(0, 7));
    }
}
