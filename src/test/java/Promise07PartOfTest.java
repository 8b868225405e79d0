public final class Promise07PartOfTest {
    private static final Check CHECK = new Check();

    public static void main(String[] args) {
        PageParts page = Pages.draw("#.#...", "......", "###..#");
        CHECK.badState("not parted", () -> page.partOf(0, 0));
        CHECK.badState("the first one of two", () -> page.partOf(-1, 0));
        page.run(0, 0);
        CHECK.same("specks are in no part", "....../....../aaa.../", Pages.partsMap(page));
        page.noise(0);
        page.run(1, 0);
        CHECK.same("ink of a gap is in its part", "aaa.../....../bbb..c/", Pages.partsMap(page));
        CHECK.same("in the gap", 0, page.partOf(1, 0));
        CHECK.same("in none", PageParts.NONE, page.partOf(3, 0));
        CHECK.indexOut("left", () -> page.partOf(-1, 0));
        CHECK.indexOut("above", () -> page.partOf(0, -1));
        CHECK.indexOut("right", () -> page.partOf(6, 0));
        CHECK.indexOut("below", () -> page.partOf(0, 3));
        CHECK.indexOut("far", () -> page.partOf(Integer.MAX_VALUE, Integer.MAX_VALUE));
        page.noise(0);
        CHECK.badState("changed since", () -> page.partOf(0, 0));
        numbersGoByFirstSamples();
        CHECK.end();
    }

    private static void numbersGoByFirstSamples() {
        PageParts page = Pages.parted(0, 0, "..#.#", "#.#.#", "#...#", "#.###");
        CHECK.same("row by row", "..a.b/c.a.b/c...b/c.bbb/", Pages.partsMap(page));
    }
}
