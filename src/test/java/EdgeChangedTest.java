import java.util.function.Consumer;

/**
 * IllegalState: "the page was not parted, or changed since (put(), fill() and noise() change it, also when all is as it
 * was)".
 */
public final class EdgeChangedTest {
    private static final Check CHECK = new Check();
    private static final String[] ROWS = {"###.", "#.#.", "###.", "...."};

    public static void main(String[] args) {
        aNewPageIsNotParted();
        eachQuestionNeedsAPartedPage();
        putChanges();
        fillChanges();
        noiseChanges();
        clearChanges();
        runPartsAgain();
        questionsDoNotChange();
        refusedCallsDoNotChange();
        aRefusedRunLeavesThePageAsItWas();
        CHECK.end();
    }

    private static PageParts parted() {
        PageParts page = Pages.draw(ROWS);
        page.run(0, 0);
        return page;
    }

    private static void notParted(String name, PageParts page) {
        for (int what = 3; what < 8; what++) {
            CHECK.same(name + ": told(" + what + ")", PageParts.NONE, page.told(what));
        }
        CHECK.badState(name + ": part", () -> page.part(0, 0));
        CHECK.badState(name + ": partOf", () -> page.partOf(0, 0));
        CHECK.badState(name + ": line", () -> page.line(0, 0, 0));
        CHECK.badState(name + ": order", () -> page.order(0));
        CHECK.badState(name + ": cover", () -> page.cover(0, 0));
        CHECK.badState(name + ": strip", () -> page.strip(0));
        CHECK.badState(name + ": cell", () -> page.cell(0, 0));
        CHECK.badState(name + ": isSpeck", () -> page.isSpeck(0, 0));
    }

    private static void aNewPageIsNotParted() {
        notParted("new", new PageParts(4, 4));
        notParted("new, 1 by 1", new PageParts(1, 1));
        notParted("drawn", Pages.draw(ROWS));
    }

    private static void eachQuestionNeedsAPartedPage() {
        PageParts page = parted();
        CHECK.same("told", "4 4 8 1 1 1 1 0", Pages.told(page));
        CHECK.same("part", 3, page.part(0, 2));
        CHECK.same("partOf", 0, page.partOf(0, 0));
        CHECK.same("line", 3, page.line(0, 0, 1));
        CHECK.same("order", 0, page.order(0));
        CHECK.same("cover", 3, page.cover(0, 0));
        CHECK.same("strip", 0, page.strip(0));
        CHECK.same("cell", 1, page.cell(0, 0));
        CHECK.same("isSpeck", false, page.isSpeck(0, 0));
    }

    private static void changes(String name, Consumer<PageParts> change) {
        PageParts page = parted();
        change.accept(page);
        notParted(name, page);
        page.run(0, 0);
        CHECK.same(name + ": parted again", true, page.told(3) >= 0);
        change.accept(page);
        notParted(name + ", a second time", page);
    }

    private static void putChanges() {
        changes("put black to white", page -> page.put(0, 0, false));
        changes("put white to black", page -> page.put(3, 0, true));
        changes("put black as it was", page -> page.put(0, 0, true));
        changes("put white as it was", page -> page.put(3, 0, false));
    }

    private static void fillChanges() {
        changes("fill white to black", page -> page.fill(0, 0, 4, 4, true));
        changes("fill black to white", page -> page.fill(0, 0, 4, 4, false));
        changes("fill black as it was", page -> page.fill(0, 0, 3, 1, true));
        changes("fill white as it was", page -> page.fill(3, 0, 9, 3, false));
    }

    private static void noiseChanges() {
        changes("another noise", page -> page.noise(4));
        changes("the noise as it was", page -> page.noise(3));
        changes("no noise", page -> page.noise(0));
        changes("the most noise", page -> page.noise(100));
    }

    private static void clearChanges() {
        PageParts page = parted();
        page.clear();
        notParted("clear", page);
        CHECK.same("parted again", 0, page.run(0, 0));
    }

    private static void runPartsAgain() {
        PageParts page = parted();
        CHECK.same("with other gaps", 1, page.run(24, 24));
        CHECK.same("is parted", 1, page.told(3));
        page.put(1, 1, true);
        page.run(0, 0);
        CHECK.same("what was changed shows", "4 4 9 1 1 1 0 0", Pages.told(page));
    }

    private static void questionsDoNotChange() {
        PageParts page = parted();
        String before = Pages.all(page);
        CHECK.same("asked again", before, Pages.all(page));
        CHECK.same("asked once more", before, Pages.all(page));
    }

    private static void refusedCallsDoNotChange() {
        PageParts page = parted();
        String before = Pages.all(page);
        CHECK.indexOut("put", () -> page.put(4, 0, true));
        CHECK.indexOut("fill", () -> page.fill(0, 4, 1, 1, true));
        CHECK.badArgument("fill", () -> page.fill(0, 0, 0, 1, true));
        CHECK.badArgument("noise", () -> page.noise(101));
        CHECK.badArgument("run", () -> page.run(25, 0));
        CHECK.indexOut("part", () -> page.part(1, 0));
        CHECK.same("still parted, and as before", before, Pages.all(page));
    }

    private static void aRefusedRunLeavesThePageAsItWas() {
        PageParts page = Pages.draw(ROWS);
        CHECK.badArgument("run", () -> page.run(-1, 0));
        notParted("never parted", page);
        PageParts changed = parted();
        changed.put(0, 0, false);
        CHECK.badArgument("run", () -> changed.run(0, 25));
        notParted("changed since", changed);
    }
}
