public final class Promise12CellTest {
    private static final Check CHECK = new Check();

    public static void main(String[] args) {
        due("none", new String[] {}, "....", "....");
        due("one sample", new String[] {"1 1 1 1 1"}, "###", "#.#", "###");
        due("corners do not open it", new String[] {"1 1 1 1 1"}, ".#.", "#.#", ".#.");
        due("a way out", new String[] {}, "###", "#..", "###");
        due("above", new String[] {}, "#.#", "#.#", "###");
        due("left", new String[] {}, "###", "..#", "###");
        due("below", new String[] {}, "###", "#.#", "#.#");
        due("corners do not join", new String[] {"1 1 1 1 1", "2 2 1 1 1"}, "####", "#.##", "##.#", "####");
        due("by first samples", new String[] {"3 1 1 1 1", "1 2 3 2 4"}, "#####", "###.#", "#.###", "#...#", "#####");
        specksAndInk();
        manyCells();
        wrongInputs();
        CHECK.end();
    }

    private static void due(String name, String[] cells, String... rows) {
        dueOf(name, cells, Pages.parted(0, 0, rows));
    }

    private static void dueOf(String name, String[] cells, PageParts page) {
        CHECK.same(name + ": told(6)", cells.length, page.told(6));
        for (int k = 0; k < cells.length && k < page.told(6); k++) {
            CHECK.same(name + ": cell " + k, cells[k], Pages.cell(page, k));
        }
    }

    private static void specksAndInk() {
        String[] rows = {"#####", "#...#", "#.#.#", "#...#", "#####"};
        dueOf("ink is not clean black", new String[] {"1 1 3 3 8"}, Pages.parted(24, 24, rows));
        PageParts page = Pages.draw(rows);
        page.run(0, 0);
        dueOf("nor are specks", new String[] {"1 1 3 3 9"}, page);
    }

    private static void manyCells() {
        PageParts page = new PageParts(23, 23);
        page.fill(0, 0, 23, 23, true);
        for (int y = 1; y < 23; y += 2) {
            for (int x = 1; x < 23; x += 2) {
                page.put(x, y, false);
            }
        }
        page.run(0, 0);
        CHECK.same("told(6)", 121, page.told(6));
        for (int k = 0; k < 121; k += 10) {
            CHECK.same("cell " + k, (1 + k % 11 * 2) + " " + (1 + k / 11 * 2) + " 1 1 1", Pages.cell(page, k));
        }
    }

    private static void wrongInputs() {
        PageParts page = Pages.draw("###", "#.#", "###");
        CHECK.badState("not parted", () -> page.cell(0, 0));
        CHECK.badState("the first one of three", () -> page.cell(-1, -1));
        page.run(0, 0);
        CHECK.indexOut("-1", () -> page.cell(-1, 0));
        CHECK.indexOut("1", () -> page.cell(1, 0));
        CHECK.indexOut("the first one of two", () -> page.cell(1, 5));
        CHECK.indexOut("most", () -> page.cell(Integer.MAX_VALUE, 0));
        CHECK.badArgument("what -1", () -> page.cell(0, -1));
        CHECK.badArgument("what 5", () -> page.cell(0, 5));
        page.put(1, 1, false);
        CHECK.badState("changed since", () -> page.cell(0, 0));
    }
}
