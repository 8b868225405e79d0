import java.util.Arrays;

/** Terms: LINES are "rows of its box, one behind the other, as many as can be, that each have clean black of it". */
public final class EdgeLinesTest {
    private static final Check CHECK = new Check();

    public static void main(String[] args) {
        aLineOfOneRow();
        aLineOfAllRows();
        asManyLinesAsCanBe();
        asManyRowsAsCanBe();
        firstRowsAreThePages();
        rowsWithInkAloneAreOfNoLine();
        rowsWithBlackOfOthersAloneAreOfNoLine();
        rowsWithSpecksAloneAreOfNoLine();
        onlyLinesAndWhatsThatThereAre();
        CHECK.end();
    }

    private static void due(String name, PageParts page, int part, String... lines) {
        CHECK.same(name + ": how many", lines.length, page.part(part, 6));
        for (int i = 0; i < lines.length && i < page.part(part, 6); i++) {
            CHECK.same(name + ": line " + i, lines[i], Pages.line(page, part, i));
        }
        CHECK.indexOut(name + ": one more", () -> page.line(part, lines.length, 0));
        CHECK.indexOut(name + ": line -1", () -> page.line(part, -1, 0));
    }

    private static void aLineOfOneRow() {
        due("1 by 1", Pages.parted(0, 0, "#"), 0, "0 1");
        due("in the last row", Pages.parted(0, 0, "..", "..", ".#"), 0, "2 1");
    }

    private static void aLineOfAllRows() {
        PageParts page = new PageParts(24, 24);
        page.fill(0, 0, 24, 24, true);
        page.run(24, 24);
        due("all black", page, 0, "0 24");
        due("a slope", Pages.parted(0, 0, "##..", ".##.", "..##"), 0, "0 3");
    }

    private static void asManyLinesAsCanBe() {
        PageParts even = new PageParts(1, 24);
        PageParts odd = new PageParts(1, 24);
        String[] evenLines = new String[12];
        String[] oddLines = new String[12];
        for (int y = 0; y < 24; y += 2) {
            even.put(0, y, true);
            odd.put(0, y + 1, true);
            evenLines[y / 2] = y + " 1";
            oddLines[y / 2] = (y + 1) + " 1";
        }
        even.noise(0);
        odd.noise(0);
        even.run(0, 1);
        odd.run(0, 1);
        due("from the first row on", even, 0, evenLines);
        due("to the last row", odd, 0, oddLines);
    }

    private static void asManyRowsAsCanBe() {
        due("two and three rows", Pages.parted(0, 1, "#", "#", ".", "#", "#", "#"), 0, "0 2", "3 3");
        due("one gap of two rows", Pages.parted(0, 2, "#", ".", ".", "#"), 0, "0 1", "3 1");
        due("black in another column goes on with the line", Pages.parted(0, 1, "#.", "##", "#.", ".."), 0, "0 3");
        due("in turns left and right", Pages.parted(2, 2, "#..#", "....", "#...", "...#"), 0, "0 1", "2 2");
    }

    private static void firstRowsAreThePages() {
        due("a box from row 2 on", Pages.parted(0, 1, "...", "...", ".#.", "...", ".#."), 0, "2 1", "4 1");
    }

    private static void rowsWithInkAloneAreOfNoLine() {
        PageParts page = Pages.parted(0, 22, column24("#", "#"));
        CHECK.same("ink", 24, page.part(0, 7));
        due("the widest gap", page, 0, "0 1", "23 1");
    }

    /** 24 rows, white between the first and the last. */
    private static String[] column24(String first, String last) {
        String[] rows = new String[24];
        Arrays.fill(rows, ".");
        rows[0] = first;
        rows[23] = last;
        return rows;
    }

    private static void rowsWithBlackOfOthersAloneAreOfNoLine() {
        PageParts page = Pages.parted(0, 1, "#####", "#...#", "#...#", "..#..", "#...#", "#...#", "#####");
        CHECK.same("map", "aaaaa/a...a/a...a/a.b.a/a...a/a...a/aaaaa/", Pages.partsMap(page));
        due("the outer part", page, 0, "0 3", "4 3");
        due("the inner part", page, 1, "3 1");
        PageParts beside = Pages.parted(0, 1, "#...", "...#", "#...");
        due("black beside the box", beside, 0, "0 1", "2 1");
    }

    private static void rowsWithSpecksAloneAreOfNoLine() {
        PageParts page = Pages.draw("###", "...", ".#.", "...", "###");
        page.run(0, 3);
        CHECK.same("the speck is ink of the part", 0, page.partOf(1, 2));
        due("a speck between", page, 0, "0 1", "4 1");
    }

    private static void onlyLinesAndWhatsThatThereAre() {
        PageParts page = Pages.parted(0, 1, "#.#", "...", "#.#", "..#");
        CHECK.same("what 0", 2, page.line(1, 1, 0));
        CHECK.same("what 1", 2, page.line(1, 1, 1));
        int[] others = {Integer.MIN_VALUE, -1, 2, 3, Integer.MAX_VALUE};
        for (int what : others) {
            CHECK.badArgument("line(1, 1, " + what + ")", () -> page.line(1, 1, what));
        }
        int[] noLines = {Integer.MIN_VALUE, -1, 2, 3, Integer.MAX_VALUE};
        for (int i : noLines) {
            CHECK.indexOut("line(1, " + i + ", 0)", () -> page.line(1, i, 0));
        }
        for (int k : noLines) {
            CHECK.indexOut("line(" + k + ", 0, 0)", () -> page.line(k, 0, 0));
        }
    }
}
