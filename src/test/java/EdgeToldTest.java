/** Promise 14: "parted, else NONE", "NONE for another what". */
public final class EdgeToldTest {
    private static final Check CHECK = new Check();

    public static void main(String[] args) {
        sidesAndBlackSamplesAreAlwaysTold();
        theOthersAreToldWhenParted();
        noneForAnotherWhat();
        nothingIsToldAs0();
        CHECK.end();
    }

    private static PageParts drawn() {
        return Pages.draw("###..#", "#.#...", "###..#");
    }

    private static void sidesAndBlackSamplesAreAlwaysTold() {
        PageParts page = drawn();
        CHECK.same("not parted", "6 3 10 -1 -1 -1 -1 -1", Pages.told(page));
        page.run(0, 0);
        CHECK.same("parted", "6 3 10", Pages.told(page).substring(0, 6));
        page.put(5, 0, true);
        CHECK.same("changed since", "6 3 10 -1 -1 -1 -1 -1", Pages.told(page));
        page.put(5, 0, false);
        CHECK.same("one less", 9, page.told(2));
        page.fill(0, 0, 6, 3, true);
        CHECK.same("all", 18, page.told(2));
        page.fill(0, 0, 6, 3, false);
        CHECK.same("none", 0, page.told(2));
    }

    private static void theOthersAreToldWhenParted() {
        PageParts page = drawn();
        page.run(0, 0);
        CHECK.same("noise 3", "6 3 10 1 1 1 1 2", Pages.told(page));
        page.noise(1);
        page.run(0, 0);
        CHECK.same("noise 1", "6 3 10 3 1 2 1 0", Pages.told(page));
        page.noise(100);
        page.run(0, 0);
        CHECK.same("noise 100", "6 3 10 0 1 0 0 10", Pages.told(page));
    }

    private static void noneForAnotherWhat() {
        PageParts page = drawn();
        others("not parted", page);
        page.run(0, 0);
        others("parted", page);
        page.noise(3);
        others("changed since", page);
    }

    private static void others(String name, PageParts page) {
        int[] others = {Integer.MIN_VALUE, Integer.MIN_VALUE + 3, -8, -2, -1, 8, 9, 10, 256, 259, Integer.MAX_VALUE};
        for (int what : others) {
            CHECK.same(name + ": told(" + what + ")", PageParts.NONE, page.told(what));
        }
    }

    private static void nothingIsToldAs0() {
        PageParts white = new PageParts(1, 1);
        white.run(0, 0);
        CHECK.same("white, 1 by 1", "1 1 0 0 0 0 0 0", Pages.told(white));
    }
}
