public final class Promise14ToldTest {
    private static final Check CHECK = new Check();

    public static void main(String[] args) {
        PageParts page = Pages.draw(
                "####......",
                "#..#.###..",
                "####.#.#..",
                ".....###..",
                "#.........");
        told(page, 10, 5, 19, -1, -1, -1, -1, -1);
        page.run(0, 0);
        told(page, 10, 5, 19, 2, 3, 2, 2, 1);
        page.put(0, 4, false);
        told(page, 10, 5, 18, -1, -1, -1, -1, -1);
        page.run(1, 0);
        told(page, 10, 5, 18, 1, 3, 1, 2, 0);
        page.noise(100);
        told(page, 10, 5, 18, -1, -1, -1, -1, -1);
        page.run(0, 0);
        told(page, 10, 5, 18, 0, 1, 0, 0, 18);
        page.clear();
        told(page, 10, 5, 0, -1, -1, -1, -1, -1);
        CHECK.end();
    }

    private static void told(PageParts page, int... due) {
        for (int what = 0; what < due.length; what++) {
            CHECK.same("told(" + what + ")", due[what], page.told(what));
        }
        int[] others = {-1, 8, 9, Integer.MAX_VALUE, Integer.MIN_VALUE};
        for (int what : others) {
            CHECK.same("told(" + what + ")", PageParts.NONE, page.told(what));
        }
    }
}
