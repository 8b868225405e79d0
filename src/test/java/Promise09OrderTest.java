public final class Promise09OrderTest {
    private static final Check CHECK = new Check();

    public static void main(String[] args) {
        fewParts();
        widestGap();
        firstOfEqualGaps();
        gapsOfNothing();
        gapsOfThePartsThatAreLeft();
        withoutACut();
        manyParts();
        wrongInputs();
        CHECK.end();
    }

    private static void due(String name, String order, String... rows) {
        PageParts page = Pages.parted(0, 0, rows);
        CHECK.same(name, order, Pages.order(page));
    }

    private static void fewParts() {
        due("none", "", "....");
        due("one", "0", ".#..");
        due("two", "0 1", ".#.#");
    }

    private static void widestGap() {
        due("columns before rows", "0 2 1 3", "#.#", "...", "#.#");
        due("rows that are farther apart", "0 1 2 3", "#.#", "...", "...", "#.#");
        due("columns that are farther apart", "0 2 1 3", "#..#", "....", "#..#");
    }

    private static void firstOfEqualGaps() {
        due("between columns", "0 1 2", "#...#", "#....", "#....", "#....", "#.#..");
        due("between rows", "0 2 1", "#####", ".....", "....#", ".....", "#....");
    }

    private static void gapsOfNothing() {
        due("between columns", "1 0", "..##", "##..");
        due("between rows", "0 2 1", "#######", "#.....#", ".....#.", ".#...#.", ".#.....");
    }

    private static void gapsOfThePartsThatAreLeft() {
        due("the heading closes all columns till it is cut off", "0 1 3 2 4",
                "########", "........", "##....##", "........", "##....##");
        due("the heading goes with the rows that are nearer", "0 1 2 3 4",
                "########", "........", "#......#", "........", "........", "#......#");
    }

    private static void withoutACut() {
        due("by uppermost rows", "0 1 2 3", "###.#", "....#", "#...#", "#....", "#.###");
        due("then by leftmost columns", "1 0", "..#.#", "....#", "#####");
        due("then by numbers", "0 1", "#.#", "..#", "###");
        due("one box within another", "0 1", "#####", "#...#", "#.#.#", "#...#", "#####");
    }

    private static void manyParts() {
        // A board of chess: all gaps are 0, so it goes column by column.
        int side = 20;
        PageParts page = Pages.chess(side, side);
        page.noise(0);
        CHECK.same("parts", side * side / 2, page.run(0, 0));
        int place = 0;
        for (int x = 0; x < side; x++) {
            for (int y = x % 2; y < side; y += 2) {
                CHECK.same("order(" + place + ")", y * side / 2 + x / 2, page.order(place));
                place++;
            }
        }
    }

    private static void wrongInputs() {
        PageParts page = Pages.draw("#.#");
        page.noise(0);
        CHECK.badState("not parted", () -> page.order(0));
        CHECK.badState("the first one of two", () -> page.order(-1));
        page.run(0, 0);
        CHECK.indexOut("-1", () -> page.order(-1));
        CHECK.indexOut("2", () -> page.order(2));
        CHECK.indexOut("most", () -> page.order(Integer.MAX_VALUE));
        CHECK.indexOut("least", () -> page.order(Integer.MIN_VALUE));
        page.put(0, 0, true);
        CHECK.badState("changed since", () -> page.order(0));
    }
}
