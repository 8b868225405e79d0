public final class Promise10CoverTest {
    private static final Check CHECK = new Check();

    public static void main(String[] args) {
        due("all white", new String[] {"0 0 4 2"}, "....", "....");
        due("all black", new String[] {}, "###", "###");
        due("3 samples are too few", new String[] {}, "...#", "####", "#...");
        due("4 samples are enough", new String[] {"0 1 4 1"}, "##.#", "....");
        due("the most samples", new String[] {"2 0 2 4"}, "##..", "#...", "##..", "##..");
        due("the uppermost", new String[] {"0 0 4 1", "0 2 4 1"}, "....", "####", "....");
        due("the leftmost", new String[] {"0 0 1 4", "2 0 1 4"}, ".#.", ".#.", ".#.", ".#.");
        due("the least high", new String[] {"0 0 4 2", "0 2 2 2"}, "....", "....", "..##", "..##");
        due("uppermost goes before leftmost", new String[] {"2 0 2 2", "0 2 2 2"}, "##..", "##..", "..##", "..##");
        due("none has a sample of one before", new String[] {"0 0 5 3", "0 3 2 3"},
                ".....", ".....", ".....", "..###", "..###", "..###");
        atMostSix();
        inkIsNotWhite();
        wrongInputs();
        CHECK.end();
    }

    private static void due(String name, String[] covers, String... rows) {
        dueOf(name, covers, Pages.parted(0, 0, rows));
    }

    private static void dueOf(String name, String[] covers, PageParts page) {
        CHECK.same(name + ": told(4)", covers.length, page.told(4));
        for (int k = 0; k < covers.length && k < page.told(4); k++) {
            CHECK.same(name + ": cover " + k, covers[k], Pages.cover(page, k));
        }
    }

    private static void atMostSix() {
        due("six of seven", new String[] {"0 0 4 1", "0 2 4 1", "0 4 4 1", "0 6 4 1", "0 8 4 1", "0 10 4 1"},
                "....", "####", "....", "####", "....", "####", "....", "####", "....", "####", "....", "####", "....");
    }

    private static void inkIsNotWhite() {
        String[] rows = {"#..#", "....", "....", "...."};
        dueOf("a gap", new String[] {"0 1 4 3"}, Pages.parted(0, 0, rows));
        String[] closed = {"#..#", "....", "#..#"};
        dueOf("a gap not closed", new String[] {"1 0 2 3"}, Pages.parted(0, 0, closed));
        dueOf("a gap closed", new String[] {"0 1 4 1"}, Pages.parted(2, 0, closed));
        PageParts speck = Pages.draw("....", ".#..", "....");
        speck.run(0, 0);
        dueOf("a speck is no ink", new String[] {"0 0 4 3"}, speck);
    }

    private static void wrongInputs() {
        PageParts page = new PageParts(3, 2);
        CHECK.badState("not parted", () -> page.cover(0, 0));
        CHECK.badState("the first one of three", () -> page.cover(-1, -1));
        page.run(0, 0);
        CHECK.indexOut("-1", () -> page.cover(-1, 0));
        CHECK.indexOut("1", () -> page.cover(1, 0));
        CHECK.indexOut("the first one of two", () -> page.cover(1, 4));
        CHECK.indexOut("most", () -> page.cover(Integer.MAX_VALUE, 0));
        CHECK.badArgument("what -1", () -> page.cover(0, -1));
        CHECK.badArgument("what 4", () -> page.cover(0, 4));
        page.noise(3);
        CHECK.badState("changed since", () -> page.cover(0, 0));
    }
}
