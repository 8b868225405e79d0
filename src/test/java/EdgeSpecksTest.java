/** Terms: SPECKS are "groups of black samples, by sides and corners, of less than NOISE samples"; promises 4 and 13. */
public final class EdgeSpecksTest {
    private static final Check CHECK = new Check();

    public static void main(String[] args) {
        eachNoiseFrom0To100IsAllowed();
        othersAreNot();
        noiseSamplesAreNoSpeckAndOneLessAre();
        withNoise0And1NothingIsASpeck();
        groupsHangTogetherByCorners();
        rowsDoNotGoOnInTheNextRow();
        whiteIsNoSpeck();
        allBlack();
        specksAreNoCleanBlack();
        CHECK.end();
    }

    private static void eachNoiseFrom0To100IsAllowed() {
        PageParts page = new PageParts(1, 1);
        int before = 3;
        for (int noise = 0; noise <= 100; noise++) {
            CHECK.same("noise(" + noise + ")", before, page.noise(noise));
            before = noise;
        }
    }

    private static void othersAreNot() {
        PageParts page = new PageParts(1, 1);
        int[] others = {Integer.MIN_VALUE, -100, -1, 101, 102, 256, Integer.MAX_VALUE};
        for (int noise : others) {
            CHECK.badArgument("noise(" + noise + ")", () -> page.noise(noise));
        }
        CHECK.same("all is as it was", 3, page.noise(100));
        CHECK.badArgument("noise(101)", () -> page.noise(101));
        CHECK.same("all is as it was", 100, page.noise(0));
        CHECK.badArgument("noise(-1)", () -> page.noise(-1));
        CHECK.same("all is as it was", 0, page.noise(0));
    }

    /** A group of so many samples, row by row from the upper left. */
    private static PageParts group(int samples) {
        PageParts page = new PageParts(24, 24);
        if (samples >= 24) {
            page.fill(0, 0, 24, samples / 24, true);
        }
        if (samples % 24 > 0) {
            page.fill(0, samples / 24, samples % 24, 1, true);
        }
        return page;
    }

    private static void noiseSamplesAreNoSpeckAndOneLessAre() {
        for (int noise = 1; noise <= 100; noise++) {
            PageParts page = group(noise);
            page.noise(noise);
            CHECK.same(noise + " samples, noise " + noise, 1, page.run(0, 0));
            CHECK.same(noise + " samples are no speck", 0, page.told(7));
            CHECK.same(noise + " samples are no speck", false, page.isSpeck(0, 0));
            page.put((noise - 1) % 24, (noise - 1) / 24, false);
            CHECK.same((noise - 1) + " samples, noise " + noise, 0, page.run(0, 0));
            CHECK.same((noise - 1) + " samples are a speck", noise - 1, page.told(7));
            CHECK.same((noise - 1) + " samples are a speck", noise > 1, page.isSpeck(0, 0));
        }
    }

    private static void withNoise0And1NothingIsASpeck() {
        for (int noise = 0; noise <= 2; noise++) {
            PageParts page = Pages.draw("#");
            page.noise(noise);
            CHECK.same("one sample, noise " + noise, noise < 2 ? 1 : 0, page.run(0, 0));
            CHECK.same("one sample, noise " + noise, noise < 2 ? 0 : 1, page.told(7));
        }
    }

    private static void groupsHangTogetherByCorners() {
        PageParts falling = Pages.draw("#..", ".#.", "..#");
        falling.run(0, 0);
        CHECK.same("3 by corners are no speck", 0, falling.told(7));
        PageParts rising = Pages.draw("..#", ".#.", "#..");
        rising.run(0, 0);
        CHECK.same("the other way", 0, rising.told(7));
        PageParts sides = Pages.draw(".#.", ".##", "...");
        sides.run(0, 0);
        CHECK.same("3 by sides are no speck", 0, sides.told(7));
        PageParts two = Pages.draw("#..", ".#.", "...");
        two.run(0, 0);
        CHECK.same("2 by corners are one", "!../.!./.../", Pages.specksMap(two));
        PageParts apart = Pages.draw("##..", "...#");
        apart.run(0, 0);
        CHECK.same("2 and 1 apart are two", "!!../...!/", Pages.specksMap(apart));
    }

    private static void rowsDoNotGoOnInTheNextRow() {
        PageParts page = new PageParts(24, 24);
        page.put(23, 0, true);
        page.put(0, 1, true);
        page.put(23, 22, true);
        page.put(0, 23, true);
        page.noise(2);
        page.run(0, 0);
        CHECK.same("four groups of one", 4, page.told(7));
        PageParts ends = new PageParts(24, 24);
        ends.put(0, 0, true);
        ends.put(23, 23, true);
        ends.put(0, 23, true);
        ends.put(23, 0, true);
        ends.run(0, 0);
        CHECK.same("nor does the page go on behind its edges", 4, ends.told(7));
    }

    private static void whiteIsNoSpeck() {
        PageParts page = Pages.draw("...", ".#.", "...");
        page.noise(100);
        page.run(24, 24);
        CHECK.same("the black one alone", ".../.!./.../", Pages.specksMap(page));
        PageParts white = new PageParts(1, 1);
        white.noise(100);
        white.run(0, 0);
        CHECK.same("a white page", false, white.isSpeck(0, 0));
        CHECK.same("a white page", 0, white.told(7));
    }

    private static void allBlack() {
        int[][] due = {{1, 1, 1}, {9, 11, 99}, {10, 10, 0}, {4, 24, 96}, {24, 5, 0}, {24, 24, 0}};
        for (int[] one : due) {
            PageParts page = new PageParts(one[0], one[1]);
            page.fill(0, 0, one[0], one[1], true);
            page.noise(100);
            page.run(0, 0);
            CHECK.same(one[0] + " by " + one[1] + " of specks", one[2], page.told(7));
            CHECK.same(one[0] + " by " + one[1] + " of parts", one[2] == 0 ? 1 : 0, page.told(3));
        }
    }

    private static void specksAreNoCleanBlack() {
        PageParts page = Pages.draw("###.##");
        CHECK.same("one part", 1, page.run(0, 0));
        CHECK.same("its weight", 3, page.part(0, 4));
        CHECK.same("the speck is in no part", PageParts.NONE, page.partOf(4, 0));
        CHECK.same("all are black", 5, page.told(2));
        CHECK.same("what is no speck", false, page.isSpeck(2, 0));
        CHECK.same("what is white", false, page.isSpeck(3, 0));
        CHECK.same("what is a speck's", true, page.isSpeck(4, 0));
    }
}
