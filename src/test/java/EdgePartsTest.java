/** Terms: PARTS, BOX and WEIGHT; promises 6 (but for what it is) and 7. */
public final class EdgePartsTest {
    private static final Check CHECK = new Check();

    public static void main(String[] args) {
        partsHangTogetherBySidesAlone();
        rowsDoNotGoOnInTheNextRow();
        numbersGoByFirstSamplesRowByRow();
        theBoxIsTheLeastWithAllOfIt();
        theWeightIsItsCleanBlackAlone();
        theInkIsItsOwnAlone();
        noPart();
        onePart();
        asManyPartsAsCanBe();
        eachWhatFrom0To7IsTold();
        noneForWhatIsInNoPart();
        CHECK.end();
    }

    private static void map(String name, String due, String... rows) {
        CHECK.same(name, due, Pages.partsMap(Pages.parted(0, 0, rows)));
    }

    private static void partsHangTogetherBySidesAlone() {
        map("by a side across", "aa/../", "##", "..");
        map("by a side down", "a./a./", "#.", "#.");
        map("not by a corner", "a./.b/", "#.", ".#");
        map("nor by the other", ".a/b./", ".#", "#.");
    }

    private static void rowsDoNotGoOnInTheNextRow() {
        PageParts page = new PageParts(24, 24);
        page.put(23, 0, true);
        page.put(0, 1, true);
        page.put(0, 23, true);
        page.noise(0);
        CHECK.same("three parts", 3, page.run(0, 0));
        CHECK.same("the first", "23 0 1 1", Pages.box(page, 0));
        CHECK.same("the second", "0 1 1 1", Pages.box(page, 1));
        CHECK.same("the third", "0 23 1 1", Pages.box(page, 2));
    }

    private static void numbersGoByFirstSamplesRowByRow() {
        map("in a row from the left", "a.b.c/", "#.#.#");
        map("rows before columns", "...a/b..a/", "...#", "#..#");
        map("by the first sample, not by the box's corner", ".a.b/...b/bbbb/", ".#.#", "...#", "####");
    }

    private static void theBoxIsTheLeastWithAllOfIt() {
        CHECK.same("one sample", "2 1 1 1", Pages.box(Pages.parted(0, 0, "....", "..#."), 0));
        CHECK.same("left of its first sample", "0 0 3 2", Pages.box(Pages.parted(0, 0, "..#.", "###."), 0));
        CHECK.same("right of its first sample", "1 0 3 2", Pages.box(Pages.parted(0, 0, ".#..", ".###"), 0));
        CHECK.same("its middle goes farthest", "0 0 3 3", Pages.box(Pages.parted(0, 0, ".#.", "###", ".#."), 0));
        CHECK.same("with ink of gaps", "0 0 4 1", Pages.box(Pages.parted(2, 0, "#..#", "...."), 0));
        CHECK.same("without specks beside it", "0 0 3 1", specksBeside());
    }

    private static String specksBeside() {
        PageParts page = Pages.draw("###..", "....#");
        page.run(24, 24);
        return Pages.box(page, 0);
    }

    private static void theWeightIsItsCleanBlackAlone() {
        PageParts gap = Pages.parted(2, 0, "#..#");
        CHECK.same("ink of a gap has none", 2, gap.part(0, 4));
        PageParts ring = Pages.parted(0, 0, "#####", "#...#", "#.#.#", "#...#", "#####");
        CHECK.same("another part in the box is not of it", 16, ring.part(0, 4));
        CHECK.same("the other", 1, ring.part(1, 4));
        PageParts speck = Pages.draw("###.#.###");
        speck.run(3, 0);
        CHECK.same("a speck in the ink has none", 6, speck.part(0, 4));
    }

    private static void theInkIsItsOwnAlone() {
        PageParts ring = Pages.parted(0, 0, "#####", "#...#", "#.#.#", "#...#", "#####");
        CHECK.same("another part in the box is not of it", 16, ring.part(0, 7));
        PageParts gap = Pages.parted(2, 0, "#..#");
        CHECK.same("with that of gaps", 4, gap.part(0, 7));
        PageParts speck = Pages.draw("###.#.###");
        speck.run(3, 0);
        CHECK.same("with a speck in it", 9, speck.part(0, 7));
    }

    private static void noPart() {
        PageParts page = new PageParts(24, 24);
        CHECK.same("run", 0, page.run(0, 0));
        CHECK.same("told", 0, page.told(3));
        CHECK.indexOut("part 0", () -> page.part(0, 0));
        CHECK.indexOut("part -1", () -> page.part(-1, 0));
        CHECK.indexOut("line 0 of part 0", () -> page.line(0, 0, 0));
        CHECK.indexOut("place 0", () -> page.order(0));
        CHECK.same("partOf", PageParts.NONE, page.partOf(0, 0));
    }

    private static void onePart() {
        PageParts page = new PageParts(24, 24);
        page.fill(0, 0, 24, 24, true);
        CHECK.same("run", 1, page.run(0, 0));
        CHECK.same("part 0", "0 0 24 24 576 2 1 576", Pages.part(page, 0));
        CHECK.indexOut("part 1", () -> page.part(1, 0));
        CHECK.same("the first sample", 0, page.partOf(0, 0));
        CHECK.same("the last sample", 0, page.partOf(23, 23));
    }

    private static void asManyPartsAsCanBe() {
        PageParts page = Pages.chess(24, 24);
        page.noise(0);
        CHECK.same("run", 288, page.run(0, 0));
        CHECK.same("told", 288, page.told(3));
        CHECK.same("the first", "0 0 1 1 1 0 1 1", Pages.part(page, 0));
        CHECK.same("the last of the first row", "22 0 1 1 1 0 1 1", Pages.part(page, 11));
        CHECK.same("the first of the second row", "1 1 1 1 1 0 1 1", Pages.part(page, 12));
        CHECK.same("the last but one", "21 23 1 1 1 0 1 1", Pages.part(page, 286));
        CHECK.same("the last", "23 23 1 1 1 0 1 1", Pages.part(page, 287));
        CHECK.indexOut("one more", () -> page.part(288, 0));
        for (int y = 0; y < 24; y++) {
            CHECK.same("the last black one of row " + y, y * 12 + 11, page.partOf(22 + y % 2, y));
            CHECK.same("the last white one of row " + y, PageParts.NONE, page.partOf(23 - y % 2, y));
        }
        PageParts odd = Pages.chess(23, 23);
        odd.noise(0);
        CHECK.same("23 by 23", 265, odd.run(0, 0));
        CHECK.same("its last", "22 22 1 1", Pages.box(odd, 264));
        CHECK.indexOut("one more", () -> odd.part(265, 0));
    }

    private static void eachWhatFrom0To7IsTold() {
        PageParts page = Pages.parted(1, 1, ".......", "..#.#..", ".......", "....#..", ".......");
        int[] due = {2, 1, 3, 3, 3, 0, 2, 5};
        for (int what = 0; what < due.length; what++) {
            CHECK.same("part(0, " + what + ")", due[what], page.part(0, what));
        }
        int[] others = {Integer.MIN_VALUE, -1, 8, 9, Integer.MAX_VALUE};
        for (int what : others) {
            CHECK.badArgument("part(0, " + what + ")", () -> page.part(0, what));
        }
    }

    private static void noneForWhatIsInNoPart() {
        PageParts page = Pages.draw("....#", ".###.", ".....", "#....");
        page.noise(2);
        page.run(0, 0);
        CHECK.same("white, a speck, and two parts", "....a/.bbb./...../...../", Pages.partsMap(page));
        CHECK.same("the speck", true, page.isSpeck(0, 3));
        PageParts white = new PageParts(1, 1);
        white.run(24, 24);
        CHECK.same("a white page", PageParts.NONE, white.partOf(0, 0));
    }
}
