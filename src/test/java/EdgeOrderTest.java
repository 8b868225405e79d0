/** Terms: THE ORDER, which cut is taken, and parts without a cut; promise 9. */
public final class EdgeOrderTest {
    private static final Check CHECK = new Check();

    public static void main(String[] args) {
        noneOneAndTwoParts();
        theWidestGapIsTaken();
        ofTheseOneBetweenColumns();
        ofTheseTheFirstBetweenColumns();
        ofTheseTheFirstBetweenRows();
        aGapMayBe0WideBetweenColumns();
        aGapMayBe0WideBetweenRows();
        aGapOf1GoesBeforeAGapOf0();
        noBoxIsOnBothSides();
        partsAreOnBothSides();
        onlyBoxesOfThesePartsCount();
        withoutACutByUppermostRows();
        thenByLeftmostColumns();
        thenByNumbers();
        withoutACutOnOneSideOfACut();
        manyCuts();
        cutsOfWhatIsBeforeCuts();
        cutsOfWhatIsBehindCuts();
        asManyPartsAsCanBe();
        whatWasPartedBeforeDoesNotShow();
        onlyPlacesThatThereAre();
        CHECK.end();
    }

    /** Where the parts stand on the page does not matter, so they are moved about where there is room. */
    private static void due(String name, String order, String... rows) {
        for (int columns = 0; columns <= 7 && rows[0].length() + columns <= 24; columns++) {
            for (int down = 0; down <= 7; down++) {
                PageParts page = Pages.parted(0, 0, Pages.moved(columns, down, rows));
                CHECK.same(name + ", moved by " + columns + ", " + down, order, Pages.order(page));
            }
        }
    }

    private static void noneOneAndTwoParts() {
        due("none", "", ".");
        due("none of 24", "", "........................");
        due("one", "0", "#");
        due("two in a row", "0 1", "#.#");
        due("two in a column", "0 1", "#", ".", "#");
    }

    /** Four samples at the corners of a rectangle; so many columns and rows are between them. */
    private static String fourApart(int columns, int rows) {
        PageParts page = new PageParts(24, 24);
        page.noise(0);
        page.put(0, 0, true);
        page.put(columns + 1, 0, true);
        page.put(0, rows + 1, true);
        page.put(columns + 1, rows + 1, true);
        page.run(0, 0);
        return Pages.order(page);
    }

    private static void theWidestGapIsTaken() {
        for (int gap = 1; gap < 22; gap++) {
            CHECK.same((gap + 1) + " columns, " + gap + " rows", "0 2 1 3", fourApart(gap + 1, gap));
            CHECK.same(gap + " columns, " + (gap + 1) + " rows", "0 1 2 3", fourApart(gap, gap + 1));
        }
        due("the second between columns is wider", "0 2 1", "#....#", "#.....", "#.....", "#.....", "#.#...");
        due("the second between rows is wider", "0 1 2", "#####", ".....", "....#", ".....", ".....", "#....");
    }

    private static void ofTheseOneBetweenColumns() {
        for (int gap = 1; gap <= 22; gap++) {
            CHECK.same(gap + " columns and rows", "0 2 1 3", fourApart(gap, gap));
        }
    }

    private static void ofTheseTheFirstBetweenColumns() {
        // The first leaves 1 and 2, which are cut by the rows between them; the second would leave 0 and 2.
        due("1 wide", "0 1 2", "#...#", "#....", "#....", "#....", "#.#..");
        due("2 wide", "0 1 2", "#.....#", "#......", "#......", "#......", "#..#...");
    }

    private static void ofTheseTheFirstBetweenRows() {
        // The first leaves 1 and 2, which are cut by the columns between them; the second would leave 0 and 1.
        due("1 wide", "0 2 1", "#####", ".....", "....#", ".....", "#....");
        due("2 wide", "0 2 1", "#####", ".....", ".....", "....#", ".....", ".....", "#....");
    }

    private static void aGapMayBe0WideBetweenColumns() {
        due("two parts", "1 0", "..##", "##..");
        due("two samples", "1 0", ".#", "#.");
        due("it goes before one of 0 between rows", "0 1", "#.", ".#");
    }

    private static void aGapMayBe0WideBetweenRows() {
        // 0 goes over all columns; without the cut below it, 1 would come before 2.
        due("below a part over all columns", "0 2 1", "#######", "#.....#", ".....#.", ".#...#.", ".#.....");
    }

    private static void aGapOf1GoesBeforeAGapOf0() {
        due("between rows, though 0 between columns", "0 1", ".#", "..", "#.");
        due("between columns, though 0 between rows", "1 0", "..#", "#..");
        due("the second between columns, though 0 at the first", "0 2 1", "##..#", "#....", "#....", "#.#..", "##...");
    }

    private static void noBoxIsOnBothSides() {
        // Columns 1 to 3 are white but within the box of 0.
        due("a box with white in it", "0 1", "#####", "#...#", "#.#.#", "#...#", "#...#");
        due("boxes that share a column", "0 1", "..##", "....", "###.");
        due("boxes side by side share none", "1 0", "...#", "###.");
    }

    private static void partsAreOnBothSides() {
        due("white at the left and right", "0 1", ".........#.#.........");
        due("white all round", "0 1", ".....", ".....", "..#..", ".....", "..#..", ".....", ".....", ".....");
        due("one part in the middle", "0", ".....", "..#..", ".....");
    }

    private static void onlyBoxesOfThesePartsCount() {
        // When 0 is cut off, 1 and 3 stand in columns of their own.
        due("a heading", "0 1 3 2 4", "########", "........", "##....##", "........", "##....##");
        due("the heading stays with the rows that are nearer", "0 1 2 3 4",
                "########", "........", "#......#", "........", "........", "#......#");
        // Between 1 and 2 are 3 columns only when 0 is cut off.
        due("a gap grows when a part is gone", "0 2 1", "..#..", ".....", ".....", "....#", "....#", "#...#",
                "#....");
    }

    private static void withoutACutByUppermostRows() {
        due("a ring of four", "0 1 2 3", "###.#", "....#", "#...#", "#....", "#.###");
        due("though farther right", "0 1", ".#####", ".....#", "####.#", ".....#", ".....#");
    }

    private static void thenByLeftmostColumns() {
        due("though its number is greater", "1 0", "..#.#", "....#", "#####");
        due("though it goes farther right", "1 0", "..#.#", "....#", ".####");
    }

    private static void thenByNumbers() {
        due("the same corner", "0 1", "#.#", "..#", "###");
        due("three of the same row, two of the same corner", "0 2 1", "#.#.#", "....#", "#####");
    }

    private static void withoutACutOnOneSideOfACut() {
        due("before it", "1 0 2", "..#.#....#", "....#....#", "#####....#");
        due("behind it", "0 2 1", "#....#.#", "#......#", "#..#####");
        due("on both sides", "1 0 3 2", "..#.#.....#.#", "....#.......#", "#####....####");
    }

    private static void manyCuts() {
        PageParts grid = new PageParts(24, 24);
        for (int y = 0; y < 24; y += 2) {
            for (int x = 0; x < 24; x += 2) {
                grid.put(x, y, true);
            }
        }
        grid.noise(0);
        CHECK.same("parts of a grid", 144, grid.run(0, 0));
        for (int place = 0; place < 144; place++) {
            CHECK.same("order(" + place + ") of a grid", place % 12 * 12 + place / 12, grid.order(place));
        }
        PageParts falling = new PageParts(24, 24);
        PageParts rising = new PageParts(24, 24);
        for (int y = 0; y < 24; y++) {
            falling.put(y, y, true);
            rising.put(23 - y, y, true);
        }
        falling.noise(0);
        rising.noise(0);
        falling.run(0, 0);
        rising.run(0, 0);
        for (int place = 0; place < 24; place++) {
            CHECK.same("order(" + place + ") falling", place, falling.order(place));
            CHECK.same("order(" + place + ") rising", 23 - place, rising.order(place));
        }
    }

    /** Six by six samples; the gaps between them are those that are told, from the left and from above. */
    private static PageParts sixBySix(int... gaps) {
        PageParts page = new PageParts(24, 24);
        page.noise(0);
        int y = 0;
        for (int row = 0; row < 6; row++) {
            int x = 0;
            for (int column = 0; column < 6; column++) {
                page.put(x, y, true);
                x += column < 5 ? 1 + gaps[column] : 0;
            }
            y += row < 5 ? 1 + gaps[row] : 0;
        }
        page.run(0, 0);
        return page;
    }

    /** The widest gap is always the last, between columns and then between rows. */
    private static void cutsOfWhatIsBeforeCuts() {
        StringBuilder due = new StringBuilder("0");
        for (int last = 1; last < 6; last++) {
            for (int column = 0; column < last; column++) {
                due.append(' ').append(last * 6 + column);
            }
            for (int row = 0; row <= last; row++) {
                due.append(' ').append(row * 6 + last);
            }
        }
        CHECK.same("gaps that grow", due.toString(), Pages.order(sixBySix(1, 2, 3, 4, 5)));
    }

    /** The widest gap is always the first, between columns and then between rows. */
    private static void cutsOfWhatIsBehindCuts() {
        StringBuilder due = new StringBuilder();
        for (int first = 0; first < 6; first++) {
            for (int row = first; row < 6; row++) {
                due.append(due.length() == 0 ? "" : " ").append(row * 6 + first);
            }
            for (int column = first + 1; column < 6; column++) {
                due.append(' ').append(first * 6 + column);
            }
        }
        CHECK.same("gaps that shrink", due.toString(), Pages.order(sixBySix(5, 4, 3, 2, 1)));
    }

    /** A board of chess has gaps of 0 alone, so it is read column by column. */
    private static void asManyPartsAsCanBe() {
        Fresh page = new Fresh(24, 24);
        for (int y = 0; y < 24; y++) {
            for (int x = y % 2; x < 24; x += 2) {
                put(page, x, y);
            }
        }
        page.change(one -> one.noise(0));
        page.change(one -> one.run(0, 0));
        for (int place = 0; place < 288; place++) {
            int x = place / 12;
            int y = place % 12 * 2 + x % 2;
            CHECK.same("order(" + place + ")", y * 12 + x / 2, page.get().order(place));
        }
        CHECK.indexOut("one more", () -> page.get().order(288));
    }

    private static void put(Fresh page, int x, int y) {
        page.change(one -> one.put(x, y, true));
    }

    private static void whatWasPartedBeforeDoesNotShow() {
        PageParts page = Pages.parted(0, 0, ".#", "#.");
        CHECK.same("two parts", "1 0", Pages.order(page));
        page.put(0, 1, false);
        page.run(0, 0);
        CHECK.same("one part", "0", Pages.order(page));
        CHECK.indexOut("a second part", () -> page.order(1));
        page.put(0, 1, true);
        page.put(0, 0, true);
        page.run(0, 0);
        CHECK.same("all hang together", "0", Pages.order(page));
        page.clear();
        page.run(0, 0);
        CHECK.indexOut("no part", () -> page.order(0));
    }

    private static void onlyPlacesThatThereAre() {
        PageParts page = Pages.parted(0, 0, "#.#.#");
        int[] none = {Integer.MIN_VALUE, -1, 3, 4, Integer.MAX_VALUE};
        for (int place : none) {
            CHECK.indexOut("order(" + place + ")", () -> page.order(place));
        }
        CHECK.same("the first", 0, page.order(0));
        CHECK.same("the last", 2, page.order(2));
        PageParts white = new PageParts(1, 1);
        white.run(0, 0);
        CHECK.indexOut("order(0) without parts", () -> white.order(0));
    }
}
