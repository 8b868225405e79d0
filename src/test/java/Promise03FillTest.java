public final class Promise03FillTest {
    private static final Check CHECK = new Check();

    public static void main(String[] args) {
        answersAndCounts();
        isCutAtThePage();
        wrongInputs();
        changesAlsoWhenAllIsAsItWas();
        CHECK.end();
    }

    private static void answersAndCounts() {
        PageParts page = new PageParts(6, 5);
        CHECK.same("white to black", 6, page.fill(1, 1, 3, 2, true));
        CHECK.same("told(2)", 6, page.told(2));
        CHECK.same("partly black", 4, page.fill(2, 1, 2, 4, true));
        CHECK.same("told(2)", 10, page.told(2));
        CHECK.same("all black", 0, page.fill(1, 1, 2, 2, true));
        CHECK.same("black to white", 2, page.fill(3, 1, 1, 2, false));
        CHECK.same("one sample", 1, page.fill(5, 0, 1, 1, true));
        page.noise(0);
        page.run(0, 0);
        CHECK.same("map", ".....a/.bb.../.bb.../..bb../..bb../", Pages.partsMap(page));
    }

    private static void isCutAtThePage() {
        PageParts page = new PageParts(6, 5);
        CHECK.same("one past each side", 6, page.fill(4, 2, 3, 4, true));
        CHECK.same("far past", 2, page.fill(5, 0, Integer.MAX_VALUE, 3, true));
        CHECK.same("farther past", 22, page.fill(0, 0, Integer.MAX_VALUE, Integer.MAX_VALUE, true));
        CHECK.same("told(2)", 30, page.told(2));
        CHECK.same("all white", 30, page.fill(0, 0, 6, 5, false));
        CHECK.same("told(2)", 0, page.told(2));
        CHECK.same("the last sample", 1, page.fill(5, 4, Integer.MAX_VALUE, Integer.MAX_VALUE, true));
    }

    private static void wrongInputs() {
        PageParts page = Pages.parted(0, 0, "#..", "..#");
        String before = Pages.all(page);
        CHECK.indexOut("left", () -> page.fill(-1, 0, 3, 1, true));
        CHECK.indexOut("above", () -> page.fill(0, -1, 1, 3, true));
        CHECK.indexOut("right", () -> page.fill(3, 0, 1, 1, true));
        CHECK.indexOut("below", () -> page.fill(0, 2, 1, 1, true));
        CHECK.indexOut("the first one of two", () -> page.fill(3, 0, 0, 1, true));
        CHECK.indexOut("the first one of two", () -> page.fill(0, -1, 1, -1, true));
        CHECK.badArgument("not wide", () -> page.fill(0, 0, 0, 1, true));
        CHECK.badArgument("not high", () -> page.fill(0, 0, 1, 0, true));
        CHECK.badArgument("below 0", () -> page.fill(1, 1, -1, 1, true));
        CHECK.badArgument("far below 0", () -> page.fill(1, 1, 1, Integer.MIN_VALUE, false));
        CHECK.same("a fill that throws changes nothing", before, Pages.all(page));
    }

    private static void changesAlsoWhenAllIsAsItWas() {
        PageParts page = Pages.parted(0, 0, "#..", "..#");
        CHECK.same("nothing another way", 0, page.fill(0, 0, 1, 1, true));
        CHECK.same("told(3)", -1, page.told(3));
        CHECK.badState("strip", () -> page.strip(0));
    }
}
