public final class Promise04NoiseTest {
    private static final Check CHECK = new Check();

    public static void main(String[] args) {
        answersTheOneBefore();
        wrongInputs();
        specksAreLessThanNoise();
        changesAlsoWhenAllIsAsItWas();
        CHECK.end();
    }

    private static void answersTheOneBefore() {
        PageParts page = new PageParts(3, 3);
        CHECK.same("at first", 3, page.noise(0));
        CHECK.same("0", 0, page.noise(100));
        CHECK.same("100", 100, page.noise(7));
        CHECK.same("7", 7, page.noise(7));
    }

    private static void wrongInputs() {
        PageParts page = Pages.parted(0, 0, "#..", "..#");
        String before = Pages.all(page);
        CHECK.badArgument("-1", () -> page.noise(-1));
        CHECK.badArgument("101", () -> page.noise(101));
        CHECK.badArgument("least", () -> page.noise(Integer.MIN_VALUE));
        CHECK.badArgument("most", () -> page.noise(Integer.MAX_VALUE));
        CHECK.same("a noise that throws changes nothing", before, Pages.all(page));
        CHECK.same("nor the noise", 0, page.noise(1));
    }

    private static void specksAreLessThanNoise() {
        PageParts page = Pages.draw("#..##..###", "..........", "#...#....#", ".#..#.....", "..#..#....", "...#.....#");
        int[] noise = {0, 1, 2, 3, 4, 5, 100};
        int[] specks = {0, 0, 3, 5, 11, 15, 15};
        for (int i = 0; i < noise.length; i++) {
            page.noise(noise[i]);
            page.run(0, 0);
            CHECK.same("samples of specks, noise " + noise[i], specks[i], page.told(7));
        }
        PageParts great = new PageParts(24, 24);
        great.fill(0, 0, 10, 10, true);
        great.noise(100);
        CHECK.same("100 samples are not less than 100", 1, great.run(0, 0));
        great.put(0, 0, false);
        CHECK.same("99 are", 0, great.run(0, 0));
        CHECK.same("99 are", 99, great.told(7));
    }

    private static void changesAlsoWhenAllIsAsItWas() {
        PageParts page = Pages.parted(0, 0, "#..", "..#");
        page.noise(0);
        CHECK.same("told(3)", -1, page.told(3));
        CHECK.badState("cell", () -> page.cell(0, 0));
    }
}
