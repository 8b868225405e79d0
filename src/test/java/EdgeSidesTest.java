/** Promise 1 and Terms: "each 1 .. 24 (other numbers count as the nearest of these)", "all white; NOISE is 3". */
public final class EdgeSidesTest {
    private static final Check CHECK = new Check();
    /** What is asked for, and the side that the page has then. */
    private static final int[][] SIDES = {
        {Integer.MIN_VALUE, 1}, {-24, 1}, {-1, 1}, {0, 1}, {1, 1}, {2, 2}, {12, 12},
        {23, 23}, {24, 24}, {25, 24}, {26, 24}, {256, 24}, {Integer.MAX_VALUE, 24}};

    public static void main(String[] args) {
        for (int[] width : SIDES) {
            for (int[] height : SIDES) {
                othersCountAsTheNearest(width, height);
                theLastSampleIsThereAndTheNextIsNot(width, height);
                theLastColumnIsThereAndTheNextIsNot(width, height);
            }
        }
        allIsWhiteAtFirst();
        noiseIsThreeAtFirst();
        isNotPartedAtFirst();
        CHECK.end();
    }

    private static String name(int[] width, int[] height) {
        return "PageParts(" + width[0] + ", " + height[0] + ")";
    }

    private static void othersCountAsTheNearest(int[] width, int[] height) {
        PageParts page = new PageParts(width[0], height[0]);
        CHECK.same(name(width, height) + " width", width[1], page.told(0));
        CHECK.same(name(width, height) + " height", height[1], page.told(1));
        CHECK.same(name(width, height) + " samples", width[1] * height[1], page.fill(0, 0, 99, 99, true));
    }

    private static void theLastSampleIsThereAndTheNextIsNot(int[] width, int[] height) {
        PageParts page = new PageParts(width[0], height[0]);
        String name = name(width, height);
        int lastX = width[1] - 1;
        int lastY = height[1] - 1;
        CHECK.same(name + " the last sample", true, page.put(lastX, lastY, true));
        CHECK.indexOut(name + " the next column", () -> page.put(lastX + 1, lastY, true));
        CHECK.indexOut(name + " the next row", () -> page.put(lastX, lastY + 1, true));
        CHECK.indexOut(name + " before the first column", () -> page.put(-1, lastY, true));
        CHECK.indexOut(name + " above the first row", () -> page.put(lastX, -1, true));
        CHECK.same(name + " one is black", 1, page.told(2));
    }

    private static void theLastColumnIsThereAndTheNextIsNot(int[] width, int[] height) {
        PageParts page = new PageParts(width[0], height[0]);
        page.put(width[1] - 1, 0, true);
        page.noise(0);
        page.run(0, 0);
        CHECK.same(name(width, height) + " the last column", 0, page.strip(width[1] - 1));
        CHECK.indexOut(name(width, height) + " the next column", () -> page.strip(width[1]));
    }

    private static void allIsWhiteAtFirst() {
        PageParts page = new PageParts(24, 24);
        CHECK.same("black samples", 0, page.told(2));
        CHECK.same("none is another way than white", 0, page.fill(0, 0, 24, 24, false));
        CHECK.same("all are another way than black", 576, page.fill(0, 0, 24, 24, true));
        PageParts least = new PageParts(1, 1);
        CHECK.same("black samples of the least page", 0, least.told(2));
        CHECK.same("its sample is white", false, least.put(0, 0, false));
    }

    private static void noiseIsThreeAtFirst() {
        CHECK.same("answered", 3, new PageParts(1, 1).noise(0));
        CHECK.same("answered", 3, new PageParts(24, 24).noise(100));
        PageParts page = Pages.draw("##...###");
        CHECK.same("2 samples are a speck, 3 are a part", 1, page.run(0, 0));
        CHECK.same("the samples of the speck", 2, page.told(7));
    }

    private static void isNotPartedAtFirst() {
        PageParts page = new PageParts(24, 24);
        CHECK.same("told", "24 24 0 -1 -1 -1 -1 -1", Pages.told(page));
        CHECK.badState("strip", () -> page.strip(0));
    }
}
