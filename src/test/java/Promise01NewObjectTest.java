public final class Promise01NewObjectTest {
    private static final Check CHECK = new Check();

    public static void main(String[] args) {
        sides(1, 1, 1, 1);
        sides(10, 8, 10, 8);
        sides(24, 23, 24, 23);
        sides(0, 25, 1, 24);
        sides(25, 0, 24, 1);
        sides(-3, 99, 1, 24);
        sides(Integer.MIN_VALUE, Integer.MAX_VALUE, 1, 24);
        sides(Integer.MAX_VALUE, Integer.MIN_VALUE, 24, 1);
        CHECK.same("NONE", -1, PageParts.NONE);
        noiseIsThree();
        CHECK.end();
    }

    private static void sides(int width, int height, int dueWidth, int dueHeight) {
        PageParts page = new PageParts(width, height);
        CHECK.same("told(0)", dueWidth, page.told(0));
        CHECK.same("told(1)", dueHeight, page.told(1));
        CHECK.same("told(2)", 0, page.told(2));
        CHECK.same("told(3), not parted", -1, page.told(3));
        CHECK.badState("partOf, not parted", () -> page.partOf(0, 0));
        CHECK.same("put at the last sample", true, page.put(dueWidth - 1, dueHeight - 1, true));
        CHECK.indexOut("put right of the page", () -> page.put(dueWidth, 0, true));
        CHECK.indexOut("put below the page", () -> page.put(0, dueHeight, true));
    }

    private static void noiseIsThree() {
        CHECK.same("noise", 3, new PageParts(4, 4).noise(5));
        PageParts page = Pages.draw("##..", "....", "###.");
        CHECK.same("run with the first noise", 1, page.run(0, 0));
        CHECK.same("samples of specks", 2, page.told(7));
    }
}
