/** Terms: a COVER is "the one with the most samples, of these the uppermost, ..", "up to 6, .. 4 samples or more". */
public final class EdgeCoversTest {
    private static final Check CHECK = new Check();

    public static void main(String[] args) {
        fourSamplesOrMore();
        upTo6();
        theMostSamples();
        ofTheseTheUppermost();
        ofTheseTheLeftmost();
        ofTheseTheLeastHigh();
        withoutASampleOfACoverBeforeIt();
        withoutInk();
        whiteAndBlackPages();
        onlyCoversAndWhatsThatThereAre();
        CHECK.end();
    }

    private static void due(String name, String[] rows, String... covers) {
        dueOf(name, Pages.parted(0, 0, rows), covers);
    }

    private static void dueOf(String name, PageParts page, String... covers) {
        CHECK.same(name + ": how many", covers.length, page.told(4));
        for (int k = 0; k < covers.length && k < page.told(4); k++) {
            CHECK.same(name + ": cover " + k, covers[k], Pages.cover(page, k));
        }
        CHECK.indexOut(name + ": one more", () -> page.cover(covers.length, 0));
    }

    private static String[] rows(String... rows) {
        return rows;
    }

    private static void fourSamplesOrMore() {
        due("3 across", rows("...#"));
        due("4 across", rows("....#"), "0 0 4 1");
        due("3 down", rows(".", ".", ".", "#"));
        due("4 down", rows(".", ".", ".", ".", "#"), "0 0 1 4");
        due("2 by 2", rows("..#", "..#", "###"), "0 0 2 2");
        due("3 in a corner have a rectangle of 2 alone", rows("..#", ".##", "###"));
        due("5 in a cross have a rectangle of 3 alone", rows("#.#", "...", "#.#"));
        due("the second has 3", rows("....#", "#####", "#...#"), "0 0 4 1");
        due("the second has 4", rows(".....#", "######", "#....#"), "0 0 5 1", "1 2 4 1");
    }

    /** Rows of white, four wide, with black ones between. */
    private static String[] whiteRows(int count) {
        String[] rows = new String[2 * count - 1];
        for (int y = 0; y < rows.length; y++) {
            rows[y] = y % 2 == 0 ? "...." : "####";
        }
        return rows;
    }

    private static void upTo6() {
        due("5 of 5", whiteRows(5), "0 0 4 1", "0 2 4 1", "0 4 4 1", "0 6 4 1", "0 8 4 1");
        due("6 of 6", whiteRows(6), "0 0 4 1", "0 2 4 1", "0 4 4 1", "0 6 4 1", "0 8 4 1", "0 10 4 1");
        due("6 of 7", whiteRows(7), "0 0 4 1", "0 2 4 1", "0 4 4 1", "0 6 4 1", "0 8 4 1", "0 10 4 1");
        PageParts great = new PageParts(24, 24);
        for (int y = 1; y < 24; y += 2) {
            great.fill(0, y, 24, 1, true);
        }
        great.run(0, 0);
        dueOf("6 of 12", great, "0 0 24 1", "0 2 24 1", "0 4 24 1", "0 6 24 1", "0 8 24 1", "0 10 24 1");
    }

    private static void theMostSamples() {
        due("one more below and right", rows("....##", "######", "#....."), "1 2 5 1", "0 0 4 1");
        due("6 in 3 by 2 before 5 in a row", rows(".....", "##...", "#####"), "2 0 3 2");
        due("8 in 2 by 4 before 6 in 3 by 2", rows("..#...", "..#...", "..####", "..####"), "0 0 2 4", "3 0 3 2");
        due("9 in 3 by 3 before 8 in a row", rows("........", "#####...", "#####..."), "5 0 3 3", "0 0 5 1");
    }

    private static void ofTheseTheUppermost() {
        due("though farther right", rows("##..", "##..", "####", "..##", "..##"), "2 0 2 2", "0 3 2 2");
        due("though higher", rows("##.##", "##.##", "##.##", "#...."), "2 0 1 4");
        due("of equals", rows("###.#", "###.#", "###.#", "###.#", "#####", "....#"), "3 0 1 4", "0 5 4 1");
    }

    private static void ofTheseTheLeftmost() {
        due("in the same row", rows("....#....", "#########"), "0 0 4 1", "5 0 4 1");
        due("though higher", rows(".#....", ".#####", ".#####", ".#####"), "0 0 1 4", "2 0 4 1");
        due("though lower", rows("....#.", "#####.", "#####.", "#####."), "0 0 4 1", "5 0 1 4");
    }

    private static void ofTheseTheLeastHigh() {
        due("1 before 4", rows("....", ".###", ".###", ".###"), "0 0 4 1");
        due("2 before 4", rows("....", "....", "..##", "..##"), "0 0 4 2", "0 2 2 2");
        due("1 before 2", rows("....", "..##", "####"), "0 0 4 1");
        due("2 before 3", rows("...", "...", "..#"), "0 0 3 2");
        due("2 before 3 before 4", rows("......", "......", "....##", "...###"), "0 0 6 2", "0 2 3 2");
    }

    private static void withoutASampleOfACoverBeforeIt() {
        due("what is left beside it", rows("......", "......", "...###", "...###"), "0 0 6 2", "0 2 3 2");
        due("what is left right of it", rows("...#", "...#", "....", "...."), "0 0 3 4");
        due("left and right of it", rows("##...##", ".......", ".......", "##...##"),
                "0 1 7 2");
        due("left, right, above and below", rows("###..###", "###..###", "........", "........", "........", "###..###",
                "###..###"), "0 2 8 3", "3 0 2 2", "3 5 2 2");
    }

    private static void withoutInk() {
        String[] rows = rows("#..#", "....", "....", "#..#");
        dueOf("without gaps", Pages.parted(0, 0, rows), "1 0 2 4");
        dueOf("a gap across is ink", Pages.parted(2, 0, rows), "0 1 4 2");
        dueOf("gaps both ways are ink", Pages.parted(2, 2, rows), "1 1 2 2");
        PageParts specks = Pages.draw("#...", "..#.", "....");
        specks.run(24, 24);
        dueOf("specks are no ink", specks, "0 0 4 3");
    }

    private static void whiteAndBlackPages() {
        int[][] least = {{1, 1}, {2, 1}, {3, 1}, {1, 3}};
        for (int[] side : least) {
            PageParts page = new PageParts(side[0], side[1]);
            page.run(0, 0);
            dueOf("white, " + side[0] + " by " + side[1], page);
        }
        int[][] white = {{4, 1}, {1, 4}, {2, 2}, {24, 1}, {1, 24}, {24, 24}};
        for (int[] side : white) {
            PageParts page = new PageParts(side[0], side[1]);
            page.run(0, 0);
            dueOf("white, " + side[0] + " by " + side[1], page, "0 0 " + side[0] + " " + side[1]);
        }
        PageParts black = new PageParts(24, 24);
        black.fill(0, 0, 24, 24, true);
        black.run(0, 0);
        dueOf("black", black);
    }

    private static void onlyCoversAndWhatsThatThereAre() {
        PageParts page = Pages.parted(0, 0, "#####", "#....", "#....");
        int[] due = {1, 1, 4, 2};
        for (int what = 0; what < due.length; what++) {
            CHECK.same("cover(0, " + what + ")", due[what], page.cover(0, what));
        }
        int[] others = {Integer.MIN_VALUE, -1, 4, 5, Integer.MAX_VALUE};
        for (int what : others) {
            CHECK.badArgument("cover(0, " + what + ")", () -> page.cover(0, what));
        }
        int[] none = {Integer.MIN_VALUE, -1, 1, 5, 6, Integer.MAX_VALUE};
        for (int k : none) {
            CHECK.indexOut("cover(" + k + ", 0)", () -> page.cover(k, 0));
        }
    }
}
