public final class Promise05RunTest {
    private static final Check CHECK = new Check();

    public static void main(String[] args) {
        wrongInputs();
        gapsAreEdges();
        inkComesOfCleanBlackAlone();
        partsHangTogetherBySides();
        specksDoNotStopInk();
        runsAgain();
        CHECK.end();
    }

    private static void wrongInputs() {
        PageParts page = Pages.draw("#.#", "...", "#.#");
        page.noise(0);
        CHECK.badArgument("-1, 0", () -> page.run(-1, 0));
        CHECK.same("still not parted", -1, page.told(3));
        CHECK.same("24, 24", 1, page.run(24, 24));
        String before = Pages.all(page);
        CHECK.badArgument("0, -1", () -> page.run(0, -1));
        CHECK.badArgument("25, 0", () -> page.run(25, 0));
        CHECK.badArgument("0, 25", () -> page.run(0, 25));
        CHECK.badArgument("least", () -> page.run(Integer.MIN_VALUE, 0));
        CHECK.badArgument("most", () -> page.run(0, Integer.MAX_VALUE));
        CHECK.same("a run that throws changes nothing", before, Pages.all(page));
        CHECK.same("0, 0", 4, page.run(0, 0));
    }

    private static void gapsAreEdges() {
        String[] rows = {"#..#", "....", "....", "#..."};
        CHECK.same("both too small", "a..b/..../..../c.../", Pages.partsMap(Pages.parted(1, 1, rows)));
        CHECK.same("across", "aaaa/..../..../b.../", Pages.partsMap(Pages.parted(2, 1, rows)));
        CHECK.same("down", "a..b/a.../a.../a.../", Pages.partsMap(Pages.parted(1, 2, rows)));
        CHECK.same("both", "aaaa/a.../a.../a.../", Pages.partsMap(Pages.parted(2, 2, rows)));
        PageParts wide = new PageParts(24, 24);
        wide.noise(0);
        wide.put(0, 5, true);
        wide.put(23, 5, true);
        wide.put(7, 0, true);
        wide.put(7, 23, true);
        CHECK.same("21 is too small for 22", 4, wide.run(21, 21));
        CHECK.same("22 across", 3, wide.run(22, 21));
        CHECK.same("22 down", 3, wide.run(21, 22));
        CHECK.same("they cross", 1, wide.run(22, 22));
    }

    private static void inkComesOfCleanBlackAlone() {
        // What is smeared in its row is no clean black for its column.
        String[] rows = {"#.#", "...", "...", "#.#"};
        CHECK.same("no second smear", "aaa/a.a/a.a/aaa/", Pages.partsMap(Pages.parted(1, 2, rows)));
        String[] edge = {".#.", "...", "#.."};
        CHECK.same("the edge is not black", ".a./.../b../", Pages.partsMap(Pages.parted(24, 24, edge)));
    }

    private static void partsHangTogetherBySides() {
        PageParts page = Pages.parted(0, 0, ".#..#", "#.###", ".#...", "##...");
        CHECK.same("by sides", ".a..b/c.bbb/.d.../dd.../", Pages.partsMap(page));
        CHECK.same("told(3)", 4, page.told(3));
        CHECK.same("an empty page", 0, new PageParts(5, 5).run(3, 3));
    }

    private static void specksDoNotStopInk() {
        PageParts page = Pages.draw("###..#..###");
        CHECK.same("a speck counts as one between", 2, page.run(4, 0));
        CHECK.same("a speck counts as one between", 1, page.run(5, 0));
        CHECK.same("it lies in the ink", 0, page.partOf(5, 0));
        CHECK.same("and stays a speck", true, page.isSpeck(5, 0));
        CHECK.same("without weight", 6, page.part(0, 4));
        CHECK.same("but ink", 11, page.part(0, 7));
    }

    private static void runsAgain() {
        PageParts page = Pages.draw("#.#.#.#", ".#.#.#.", "#.#.#.#");
        page.noise(0);
        String first = "";
        for (int i = 0; i < 100; i++) {
            page.run(i % 3, i % 2);
            if (i == 4) {
                first = Pages.all(page);
            }
        }
        page.run(4 % 3, 0);
        CHECK.same("what was parted before does not matter", first, Pages.all(page));
    }
}
