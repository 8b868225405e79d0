/** Promise 15: "All samples are white, NOISE is 3", whatever was before. */
public final class EdgeClearTest {
    private static final Check CHECK = new Check();

    public static void main(String[] args) {
        int[] sides = {1, 2, 23, 24};
        for (int width : sides) {
            for (int height : sides) {
                allSamplesAreWhite(width, height);
            }
        }
        noiseIsThreeAgain();
        thePageIsNotParted();
        nothingOfBeforeShows();
        clearOfANewPage();
        CHECK.end();
    }

    private static void allSamplesAreWhite(int width, int height) {
        String name = width + " by " + height;
        PageParts page = new PageParts(width, height);
        page.fill(0, 0, width, height, true);
        page.clear();
        CHECK.same(name + " black ones", 0, page.told(2));
        CHECK.same(name + " none is black", 0, page.fill(0, 0, width, height, false));
        CHECK.same(name + " width", width, page.told(0));
        CHECK.same(name + " height", height, page.told(1));
        page.put(width - 1, height - 1, true);
        page.clear();
        CHECK.same(name + " the last sample is white", true, page.put(width - 1, height - 1, true));
        CHECK.same(name + " black ones", 1, page.told(2));
    }

    private static void noiseIsThreeAgain() {
        int[] noises = {0, 1, 2, 3, 4, 99, 100};
        for (int noise : noises) {
            PageParts page = new PageParts(3, 1);
            page.noise(noise);
            page.clear();
            CHECK.same("after noise " + noise, 3, page.noise(noise));
            page.clear();
            page.fill(0, 0, 3, 1, true);
            CHECK.same("3 samples are no speck", 1, page.run(0, 0));
            page.put(2, 0, false);
            CHECK.same("2 are", 0, page.run(0, 0));
        }
    }

    private static void thePageIsNotParted() {
        PageParts page = Pages.parted(0, 0, "###", "#.#", "###");
        page.clear();
        CHECK.same("told", "3 3 0 -1 -1 -1 -1 -1", Pages.told(page));
        CHECK.badState("part", () -> page.part(0, 0));
        CHECK.badState("cover", () -> page.cover(0, 0));
        CHECK.badState("strip", () -> page.strip(0));
    }

    private static void nothingOfBeforeShows() {
        PageParts page = Pages.parted(0, 0, "###..#", "#.#...", "###..#");
        page.clear();
        CHECK.same("run", 0, page.run(24, 24));
        PageParts fresh = new PageParts(6, 3);
        fresh.run(24, 24);
        CHECK.same("all is as on a new page", Pages.all(fresh), Pages.all(page));
    }

    private static void clearOfANewPage() {
        PageParts page = new PageParts(24, 24);
        page.clear();
        CHECK.same("told", "24 24 0 -1 -1 -1 -1 -1", Pages.told(page));
        CHECK.same("noise", 3, page.noise(0));
        page.clear();
        page.clear();
        CHECK.same("twice", 3, page.noise(3));
    }
}
