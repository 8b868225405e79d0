public final class Promise13IsSpeckTest {
    private static final Check CHECK = new Check();

    public static void main(String[] args) {
        specks();
        wrongInputs();
        CHECK.end();
    }

    private static void specks() {
        PageParts page = Pages.draw("#....##", ".#.....", "...#...", "..#....", "...#.#.");
        page.run(0, 0);
        CHECK.same("less than 3, by sides and corners", "!....!!/.!...../......./......./.....!./", Pages.specksMap(page));
        page.run(24, 24);
        CHECK.same("gaps do not matter", "!....!!/.!...../......./......./.....!./", Pages.specksMap(page));
        page.noise(2);
        page.run(0, 0);
        CHECK.same("less than 2", "......./......./......./......./.....!./", Pages.specksMap(page));
        page.noise(1);
        page.run(0, 0);
        CHECK.same("less than 1", "......./......./......./......./......./", Pages.specksMap(page));
        page.noise(4);
        page.run(0, 0);
        CHECK.same("less than 4", "!....!!/.!...../...!.../..!..../...!.!./", Pages.specksMap(page));
    }

    private static void wrongInputs() {
        PageParts page = Pages.draw("#..", "...");
        CHECK.badState("not parted", () -> page.isSpeck(0, 0));
        CHECK.badState("the first one of two", () -> page.isSpeck(3, 0));
        page.run(0, 0);
        CHECK.indexOut("left", () -> page.isSpeck(-1, 0));
        CHECK.indexOut("above", () -> page.isSpeck(0, -1));
        CHECK.indexOut("right", () -> page.isSpeck(3, 0));
        CHECK.indexOut("below", () -> page.isSpeck(0, 2));
        CHECK.indexOut("far", () -> page.isSpeck(Integer.MIN_VALUE, Integer.MAX_VALUE));
        page.put(0, 0, true);
        CHECK.badState("changed since", () -> page.isSpeck(0, 0));
    }
}
