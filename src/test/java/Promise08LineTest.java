public final class Promise08LineTest {
    private static final Check CHECK = new Check();

    public static void main(String[] args) {
        linesFromAbove();
        onlyCleanBlackOfThePart();
        wrongInputs();
        CHECK.end();
    }

    private static void line(PageParts page, int part, int i, int first, int rows) {
        CHECK.same("line(" + part + ", " + i + ", 0)", first, page.line(part, i, 0));
        CHECK.same("line(" + part + ", " + i + ", 1)", rows, page.line(part, i, 1));
    }

    private static void linesFromAbove() {
        PageParts page = Pages.parted(0, 2, "....", ".##.", ".#..", "....", ".#..", "....", "....", ".###", ".#..", "..#.");
        CHECK.same("one part", 1, page.told(3));
        CHECK.same("three lines", 3, page.part(0, 6));
        line(page, 0, 0, 1, 2);
        line(page, 0, 1, 4, 1);
        line(page, 0, 2, 7, 3);
        PageParts column = Pages.parted(0, 24, "#", ".", "#", "#", ".", "#");
        CHECK.same("to the page's edges", 3, column.part(0, 6));
        line(column, 0, 0, 0, 1);
        line(column, 0, 1, 2, 2);
        line(column, 0, 2, 5, 1);
    }

    private static void onlyCleanBlackOfThePart() {
        // Row 3 has ink of the part round it, but clean black only of the one within.
        PageParts page = Pages.parted(0, 1, "#####", "#...#", "#...#", "..#..", "#...#", "#...#", "#####");
        CHECK.same("map", "aaaaa/a...a/a...a/a.b.a/a...a/a...a/aaaaa/", Pages.partsMap(page));
        CHECK.same("two lines round another part", 2, page.part(0, 6));
        line(page, 0, 0, 0, 3);
        line(page, 0, 1, 4, 3);
        line(page, 1, 0, 3, 1);
        PageParts speck = Pages.draw("###", "...", ".#.", "...", "###");
        speck.run(0, 3);
        CHECK.same("a speck is no clean black", 2, speck.part(0, 6));
        line(speck, 0, 1, 4, 1);
    }

    private static void wrongInputs() {
        PageParts page = Pages.draw("#.#", "..#", "#..");
        page.noise(0);
        CHECK.badState("not parted", () -> page.line(0, 0, 0));
        CHECK.badState("the first one of three", () -> page.line(-1, -1, -1));
        page.run(0, 1);
        CHECK.same("two parts", 2, page.told(3));
        CHECK.same("two lines", 2, page.part(0, 6));
        CHECK.same("one line", 1, page.part(1, 6));
        CHECK.indexOut("part -1", () -> page.line(-1, 0, 0));
        CHECK.indexOut("part 2", () -> page.line(2, 0, 0));
        CHECK.indexOut("line -1", () -> page.line(0, -1, 0));
        CHECK.indexOut("line 2", () -> page.line(0, 2, 0));
        CHECK.indexOut("line 1 of the other", () -> page.line(1, 1, 0));
        CHECK.indexOut("the first one of two", () -> page.line(1, 1, 2));
        CHECK.indexOut("far", () -> page.line(Integer.MAX_VALUE, Integer.MIN_VALUE, 0));
        CHECK.badArgument("what -1", () -> page.line(0, 0, -1));
        CHECK.badArgument("what 2", () -> page.line(0, 1, 2));
        page.fill(0, 0, 1, 1, true);
        CHECK.badState("changed since", () -> page.line(0, 0, 0));
    }
}
