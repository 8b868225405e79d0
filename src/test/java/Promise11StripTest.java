public final class Promise11StripTest {
    private static final Check CHECK = new Check();

    public static void main(String[] args) {
        due("none", "---", 0, Pages.parted(0, 0, "...", "..."));
        due("to both edges", "0-11-2", 3, Pages.parted(0, 0, "#....#", "...#..", "..#..."));
        due("all", "000", 1, Pages.parted(0, 0, "#.#", ".#."));
        due("gaps of ink", "0000-1", 2, Pages.parted(2, 0, "#..#..", ".....#"));
        PageParts speck = Pages.draw("#.###", ".....");
        speck.run(0, 0);
        due("specks are no ink", "--000", 1, speck);
        wrongInputs();
        CHECK.end();
    }

    private static void due(String name, String strips, int count, PageParts page) {
        CHECK.same(name + ": told(5)", count, page.told(5));
        for (int x = 0; x < strips.length(); x++) {
            char one = strips.charAt(x);
            CHECK.same(name + ": strip(" + x + ")", one == '-' ? PageParts.NONE : one - '0', page.strip(x));
        }
    }

    private static void wrongInputs() {
        PageParts page = Pages.draw("#.#");
        CHECK.badState("not parted", () -> page.strip(0));
        CHECK.badState("the first one of two", () -> page.strip(3));
        page.run(0, 0);
        CHECK.indexOut("-1", () -> page.strip(-1));
        CHECK.indexOut("3", () -> page.strip(3));
        CHECK.indexOut("most", () -> page.strip(Integer.MAX_VALUE));
        CHECK.indexOut("least", () -> page.strip(Integer.MIN_VALUE));
        page.fill(0, 0, 1, 1, true);
        CHECK.badState("changed since", () -> page.strip(0));
    }
}
