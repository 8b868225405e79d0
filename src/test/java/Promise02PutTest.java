public final class Promise02PutTest {
    private static final Check CHECK = new Check();

    public static void main(String[] args) {
        answersAndCounts();
        wrongSamples();
        changesAlsoWhenAllIsAsItWas();
        CHECK.end();
    }

    private static void answersAndCounts() {
        PageParts page = new PageParts(5, 4);
        CHECK.same("white is white", false, page.put(1, 1, false));
        CHECK.same("white to black", true, page.put(1, 1, true));
        CHECK.same("black is black", false, page.put(1, 1, true));
        CHECK.same("one is black", 1, page.told(2));
        CHECK.same("another", true, page.put(4, 3, true));
        CHECK.same("the first one", true, page.put(0, 0, true));
        CHECK.same("three are black", 3, page.told(2));
        CHECK.same("black to white", true, page.put(1, 1, false));
        CHECK.same("two are black", 2, page.told(2));
        page.noise(0);
        page.run(0, 0);
        CHECK.same("map", "a..../...../...../....b/", Pages.partsMap(page));
    }

    private static void wrongSamples() {
        PageParts page = Pages.parted(0, 0, "#..", "..#");
        String before = Pages.all(page);
        int[][] wrong = {{-1, 0}, {0, -1}, {3, 0}, {0, 2}, {Integer.MAX_VALUE, 0}, {0, Integer.MIN_VALUE}, {2, 2}, {23, 1}};
        for (int[] at : wrong) {
            CHECK.indexOut("put(" + at[0] + ", " + at[1] + ")", () -> page.put(at[0], at[1], true));
            CHECK.indexOut("put(" + at[0] + ", " + at[1] + ") white", () -> page.put(at[0], at[1], false));
        }
        CHECK.same("a put that throws changes nothing", before, Pages.all(page));
    }

    private static void changesAlsoWhenAllIsAsItWas() {
        PageParts page = Pages.parted(0, 0, "#..", "..#");
        page.put(0, 0, true);
        CHECK.same("told(3)", -1, page.told(3));
        CHECK.badState("part", () -> page.part(0, 0));
        page.run(0, 0);
        page.put(1, 0, false);
        CHECK.badState("order", () -> page.order(0));
    }
}
