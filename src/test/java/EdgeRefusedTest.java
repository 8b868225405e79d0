import java.util.function.Consumer;
import java.util.function.Supplier;

/**
 * The paragraph that follows "Terms": which exception a call throws, "of several that a call names, the first one",
 * and "a call that throws changes nothing": behind each refused call, the page is compared with one that never had it.
 */
public final class EdgeRefusedTest {
    private static final Check CHECK = new Check();
    private static final int LEAST = Integer.MIN_VALUE;
    private static final int MOST = Integer.MAX_VALUE;
    private static final int WIDTH = 9;
    private static final int HEIGHT = 7;
    private static final Class<?> STATE = IllegalStateException.class;
    private static final Class<?> INDEX = IndexOutOfBoundsException.class;
    private static final Class<?> ARGUMENT = IllegalArgumentException.class;

    private static Supplier<PageParts> maker;
    private static String state;
    private static String due;

    public static void main(String[] args) {
        look("never parted", EdgeRefusedTest::drawn);
        changesAreRefused();
        questionsNeedAPartedPage();
        look("changed since", EdgeRefusedTest::changed);
        changesAreRefused();
        questionsNeedAPartedPage();
        look("parted", EdgeRefusedTest::parted);
        partsOf();
        changesAreRefused();
        questionsAreRefused();
        theFirstOfSeveral();
        CHECK.end();
    }

    /** Two parts of 3 and 2 lines, a speck, a cell; neither the noise nor the gaps are what they are at first. */
    private static PageParts drawn() {
        PageParts page = Pages.draw(
                "###......",
                "#.#....#.",
                "###......",
                ".........",
                "##...##..",
                ".........",
                "##...##..");
        page.noise(2);
        return page;
    }

    private static PageParts parted() {
        PageParts page = drawn();
        page.run(0, 1);
        return page;
    }

    private static PageParts changed() {
        PageParts page = parted();
        page.put(0, 0, true);
        return page;
    }

    private static void look(String name, Supplier<PageParts> make) {
        state = name;
        maker = make;
        due = Pages.inside(make.get());
    }

    /** The tests below hang on these numbers. */
    private static void partsOf() {
        PageParts page = parted();
        CHECK.same("told", "9 7 17 2 3 2 1 1", Pages.told(page));
        CHECK.same("lines of part 0", 3, page.part(0, 6));
        CHECK.same("lines of part 1", 2, page.part(1, 6));
    }

    private static void refused(String call, Class<?> exception, Consumer<PageParts> body) {
        PageParts page = maker.get();
        CHECK.throwing(state + ": " + call, exception, () -> body.accept(page));
        CHECK.same(state + ": " + call + " and what is behind it", due, Pages.inside(page));
    }

    private static void changesAreRefused() {
        samplesThatThereAreNot("put black", (page, x, y) -> page.put(x, y, true));
        samplesThatThereAreNot("put white", (page, x, y) -> page.put(x, y, false));
        samplesThatThereAreNot("fill black", (page, x, y) -> page.fill(x, y, 3, 3, true));
        samplesThatThereAreNot("fill white", (page, x, y) -> page.fill(x, y, MOST, MOST, false));
        int[] sides = {0, -1, -WIDTH, LEAST};
        for (int side : sides) {
            refused("fill(0, 0, " + side + ", 1)", ARGUMENT, page -> page.fill(0, 0, side, 1, true));
            refused("fill(0, 0, 1, " + side + ")", ARGUMENT, page -> page.fill(0, 0, 1, side, false));
            refused("fill(8, 6, " + side + ", " + side + ")", ARGUMENT, page -> page.fill(8, 6, side, side, true));
        }
        int[] noises = {LEAST, -1, 101, MOST};
        for (int noise : noises) {
            refused("noise(" + noise + ")", ARGUMENT, page -> page.noise(noise));
        }
        int[] gaps = {LEAST, -1, 25, MOST};
        for (int gap : gaps) {
            refused("run(" + gap + ", 24)", ARGUMENT, page -> page.run(gap, 24));
            refused("run(24, " + gap + ")", ARGUMENT, page -> page.run(24, gap));
        }
        refused("fill without a sample, not wide", INDEX, page -> page.fill(WIDTH, 0, 0, 1, true));
        refused("fill without a sample, not high", INDEX, page -> page.fill(0, -1, 1, 0, true));
    }

    /** A call that names a sample. */
    private interface AtSample {
        void call(PageParts page, int x, int y);
    }

    private static void samplesThatThereAreNot(String name, AtSample body) {
        int[] columns = {LEAST, -1, WIDTH, WIDTH + 1, 23, 24, MOST};
        for (int x : columns) {
            refused(name + " " + x + ", 0", INDEX, page -> body.call(page, x, 0));
            refused(name + " " + x + ", 6", INDEX, page -> body.call(page, x, HEIGHT - 1));
        }
        int[] rows = {LEAST, -1, HEIGHT, HEIGHT + 1, 23, 24, MOST};
        for (int y : rows) {
            refused(name + " 0, " + y, INDEX, page -> body.call(page, 0, y));
            refused(name + " 8, " + y, INDEX, page -> body.call(page, WIDTH - 1, y));
        }
        refused(name + " neither column nor row", INDEX, page -> body.call(page, WIDTH, HEIGHT));
    }

    private static void questionsNeedAPartedPage() {
        refused("part(0, 0)", STATE, page -> page.part(0, 0));
        refused("partOf(0, 0)", STATE, page -> page.partOf(0, 0));
        refused("line(0, 0, 0)", STATE, page -> page.line(0, 0, 0));
        refused("order(0)", STATE, page -> page.order(0));
        refused("cover(0, 0)", STATE, page -> page.cover(0, 0));
        refused("strip(0)", STATE, page -> page.strip(0));
        refused("cell(0, 0)", STATE, page -> page.cell(0, 0));
        refused("isSpeck(0, 0)", STATE, page -> page.isSpeck(0, 0));
        int[] none = {LEAST, -1, 24, 300, MOST};
        for (int k : none) {
            refused("part(" + k + ", 0)", STATE, page -> page.part(k, 0));
            refused("part(0, " + k + ")", STATE, page -> page.part(0, k));
            refused("part(" + k + ", " + k + ")", STATE, page -> page.part(k, k));
            refused("partOf(" + k + ", 0)", STATE, page -> page.partOf(k, 0));
            refused("partOf(0, " + k + ")", STATE, page -> page.partOf(0, k));
            refused("line(" + k + ", 0, 0)", STATE, page -> page.line(k, 0, 0));
            refused("line(0, " + k + ", 0)", STATE, page -> page.line(0, k, 0));
            refused("line(0, 0, " + k + ")", STATE, page -> page.line(0, 0, k));
            refused("order(" + k + ")", STATE, page -> page.order(k));
            refused("cover(" + k + ", 0)", STATE, page -> page.cover(k, 0));
            refused("cover(0, " + k + ")", STATE, page -> page.cover(0, k));
            refused("strip(" + k + ")", STATE, page -> page.strip(k));
            refused("cell(" + k + ", 0)", STATE, page -> page.cell(k, 0));
            refused("cell(0, " + k + ")", STATE, page -> page.cell(0, k));
            refused("isSpeck(" + k + ", 0)", STATE, page -> page.isSpeck(k, 0));
            refused("isSpeck(0, " + k + ")", STATE, page -> page.isSpeck(0, k));
        }
    }

    /** A call that names one number. */
    private interface WithNumber {
        void call(PageParts page, int number);
    }

    /** On each side of 0 .. count - 1, and the least and the greatest int. */
    private static void outside(String name, int count, Class<?> exception, WithNumber body) {
        int[] numbers = {LEAST, -1, count, count + 1, MOST};
        for (int number : numbers) {
            refused(name + " with " + number, exception, page -> body.call(page, number));
        }
    }

    private static void questionsAreRefused() {
        samplesThatThereAreNot("partOf", PageParts::partOf);
        samplesThatThereAreNot("isSpeck", PageParts::isSpeck);
        outside("part(k, 0)", 2, INDEX, (page, k) -> page.part(k, 0));
        outside("part(1, what)", 8, ARGUMENT, (page, what) -> page.part(1, what));
        outside("line(k, 0, 0)", 2, INDEX, (page, k) -> page.line(k, 0, 0));
        outside("line(0, i, 0)", 3, INDEX, (page, i) -> page.line(0, i, 0));
        outside("line(1, i, 1)", 2, INDEX, (page, i) -> page.line(1, i, 1));
        outside("line(1, 1, what)", 2, ARGUMENT, (page, what) -> page.line(1, 1, what));
        outside("order(place)", 2, INDEX, PageParts::order);
        outside("cover(k, 0)", 3, INDEX, (page, k) -> page.cover(k, 0));
        outside("cover(2, what)", 4, ARGUMENT, (page, what) -> page.cover(2, what));
        outside("strip(x)", WIDTH, INDEX, PageParts::strip);
        outside("cell(k, 0)", 1, INDEX, (page, k) -> page.cell(k, 0));
        outside("cell(0, what)", 5, ARGUMENT, (page, what) -> page.cell(0, what));
    }

    private static void theFirstOfSeveral() {
        outside("part(2, what)", 8, INDEX, (page, what) -> page.part(2, what));
        outside("part(-1, what)", 8, INDEX, (page, what) -> page.part(-1, what));
        outside("line(2, 0, what)", 2, INDEX, (page, what) -> page.line(2, 0, what));
        outside("line(1, 2, what)", 2, INDEX, (page, what) -> page.line(1, 2, what));
        outside("line(0, -1, what)", 2, INDEX, (page, what) -> page.line(0, -1, what));
        outside("line(2, i, 0)", 3, INDEX, (page, i) -> page.line(2, i, 0));
        outside("cover(3, what)", 4, INDEX, (page, what) -> page.cover(3, what));
        outside("cover(-1, what)", 4, INDEX, (page, what) -> page.cover(-1, what));
        outside("cell(1, what)", 5, INDEX, (page, what) -> page.cell(1, what));
        outside("cell(-1, what)", 5, INDEX, (page, what) -> page.cell(-1, what));
    }
}
