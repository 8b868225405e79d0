/** What it is: "An object is used for at most 512 calls after it has been made": the 512th is answered as due. */
public final class EdgeCallsTest {
    private static final Check CHECK = new Check();
    private static final int BEFORE_THE_LAST = Pages.MOST_CALLS - 1;

    public static void main(String[] args) {
        puts();
        fills();
        noises();
        runs();
        questions();
        refusedCalls();
        clears();
        twoObjectsDoNotShareTheirCalls();
        CHECK.end();
    }

    private static void puts() {
        PageParts page = new PageParts(24, 24);
        for (int i = 0; i < BEFORE_THE_LAST; i++) {
            CHECK.same("put " + i, true, page.put(i % 24, i / 24, true));
        }
        CHECK.same("the 512th call", BEFORE_THE_LAST, page.told(2));
    }

    private static void fills() {
        PageParts page = new PageParts(24, 24);
        for (int i = 0; i < BEFORE_THE_LAST; i++) {
            CHECK.same("fill " + i, 576, page.fill(0, 0, 24, 24, i % 2 == 0));
        }
        CHECK.same("the 512th call", 576, page.fill(0, 0, 24, 24, false));
    }

    private static void noises() {
        PageParts page = new PageParts(1, 1);
        CHECK.same("the first", 3, page.noise(0));
        for (int i = 1; i < BEFORE_THE_LAST; i++) {
            CHECK.same("noise " + i, (i - 1) % 101, page.noise(i % 101));
        }
        CHECK.same("the 512th call", (BEFORE_THE_LAST - 1) % 101, page.noise(0));
    }

    /** The dearest page: as many parts as can be, parted as often as can be. */
    private static void runs() {
        PageParts page = Pages.chess(24, 24);
        int made = 288;
        for (int i = made; i < BEFORE_THE_LAST; i++) {
            CHECK.same("run", i % 2 == 0 ? 288 : 1, page.run(i % 2, 0));
        }
        CHECK.same("the 512th call", 287, page.order(287));
        PageParts white = new PageParts(24, 24);
        for (int i = 0; i < BEFORE_THE_LAST; i++) {
            CHECK.same("run", 0, white.run(i % 25, 24 - i % 25));
        }
        CHECK.same("the 512th call", 24, white.cover(0, 3));
    }

    private static void questions() {
        for (int kind = 0; kind < 9; kind++) {
            PageParts page = Pages.draw("###..", "#.#..", "###..");
            page.run(0, 0);
            int made = 5;
            for (int call = made + 1; call <= Pages.MOST_CALLS; call++) {
                question("call " + call, kind, page);
            }
        }
    }

    private static void question(String name, int kind, PageParts page) {
        switch (kind) {
            case 0 -> CHECK.same(name + " part", 8, page.part(0, 4));
            case 1 -> CHECK.same(name + " partOf", PageParts.NONE, page.partOf(1, 1));
            case 2 -> CHECK.same(name + " line", 3, page.line(0, 0, 1));
            case 3 -> CHECK.same(name + " order", 0, page.order(0));
            case 4 -> CHECK.same(name + " cover", 3, page.cover(0, 0));
            case 5 -> CHECK.same(name + " strip", 0, page.strip(2));
            case 6 -> CHECK.same(name + " cell", 1, page.cell(0, 4));
            case 7 -> CHECK.same(name + " isSpeck", false, page.isSpeck(0, 0));
            default -> CHECK.same(name + " told", 5, page.told(0));
        }
    }

    private static void refusedCalls() {
        PageParts page = new PageParts(3, 3);
        for (int i = 0; i < BEFORE_THE_LAST; i++) {
            CHECK.badState("order " + i, () -> page.order(0));
        }
        CHECK.same("the 512th call", 0, page.run(0, 0));
        PageParts other = new PageParts(3, 3);
        for (int i = 0; i < BEFORE_THE_LAST; i++) {
            CHECK.indexOut("put " + i, () -> other.put(3, 0, true));
        }
        CHECK.same("the 512th call", true, other.put(0, 0, true));
    }

    private static void clears() {
        PageParts page = new PageParts(2, 2);
        for (int i = 0; i < BEFORE_THE_LAST; i += 2) {
            page.clear();
            if (i + 1 < BEFORE_THE_LAST) {
                CHECK.same("put", true, page.put(1, 1, true));
            }
        }
        CHECK.same("the 512th call", 0, page.told(2));
    }

    private static void twoObjectsDoNotShareTheirCalls() {
        PageParts one = new PageParts(2, 2);
        PageParts other = new PageParts(2, 2);
        for (int i = 0; i < BEFORE_THE_LAST; i++) {
            CHECK.same("put " + i, true, one.put(0, 0, i % 2 == 0));
            CHECK.same("the other's", 0, other.told(2));
        }
        CHECK.same("the 512th call of one", 1, one.told(2));
        CHECK.same("the 512th call of the other", 4, other.fill(0, 0, 2, 2, true));
    }
}
