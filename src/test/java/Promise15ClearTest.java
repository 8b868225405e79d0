public final class Promise15ClearTest {
    private static final Check CHECK = new Check();

    public static void main(String[] args) {
        PageParts page = Pages.parted(1, 1, "#.#.", "...#", "####");
        page.noise(50);
        page.run(1, 1);
        page.clear();
        CHECK.same("as a new one", Pages.all(new PageParts(4, 3)), Pages.all(page));
        CHECK.same("black samples", 0, page.told(2));
        CHECK.badState("no longer parted", () -> page.order(0));
        CHECK.same("no parts", 0, page.run(24, 24));
        CHECK.same("nor specks", 0, page.told(7));
        CHECK.same("one cover", "0 0 4 3", Pages.cover(page, 0));
        CHECK.same("width", 4, page.told(0));
        CHECK.same("height", 3, page.told(1));
        page.clear();
        CHECK.same("no longer parted, though it was white", -1, page.told(3));
        CHECK.same("noise", 3, page.noise(9));
        page.clear();
        CHECK.same("a white page with another noise", 3, page.noise(3));
        page.clear();
        CHECK.same("all are white", 12, page.fill(0, 0, 4, 3, true));
        CHECK.end();
    }
}
