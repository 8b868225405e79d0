import java.util.function.Supplier;

/** Pages drawn as rows of text, and all that a page answers as one text. */
final class Pages {
    /** The document promises nothing about an object after so many calls. */
    static final int MOST_CALLS = 512;

    private Pages() {
    }

    /** '#' is black, all else white. Black ones side by side are one call, so that calls are left for the test. */
    static PageParts draw(String... rows) {
        PageParts page = new PageParts(rows[0].length(), rows.length);
        for (int y = 0; y < rows.length; y++) {
            int x = rows[y].indexOf('#');
            while (x >= 0) {
                int end = x;
                while (end < rows[y].length() && rows[y].charAt(end) == '#') {
                    end++;
                }
                page.fill(x, y, end - x, 1, true);
                x = rows[y].indexOf('#', end);
            }
        }
        return page;
    }

    /** The same rows with white columns and rows before them; what goes past the greatest page is left out. */
    static String[] moved(int columns, int rows, String... drawn) {
        String[] moved = new String[Math.min(24, drawn.length + rows)];
        int width = Math.min(24, drawn[0].length() + columns);
        for (int y = 0; y < moved.length; y++) {
            String row = y < rows ? "" : ".".repeat(columns) + drawn[y - rows];
            moved[y] = (row + ".".repeat(24)).substring(0, width);
        }
        return moved;
    }

    /** Drawn, without noise, and parted. */
    static PageParts parted(int gapX, int gapY, String... rows) {
        PageParts page = draw(rows);
        page.noise(0);
        page.run(gapX, gapY);
        return page;
    }

    /** Black where column and row are both even or both odd. */
    static PageParts chess(int width, int height) {
        PageParts page = new PageParts(width, height);
        for (int y = 0; y < height; y++) {
            for (int x = y % 2; x < width; x += 2) {
                page.put(x, y, true);
            }
        }
        return page;
    }

    /** First column, first row, width, height of a part. */
    static String box(PageParts page, int k) {
        return page.part(k, 0) + " " + page.part(k, 1) + " " + page.part(k, 2) + " " + page.part(k, 3);
    }

    /** All that is told of a part. */
    static String part(PageParts page, int k) {
        return box(page, k) + " " + page.part(k, 4) + " " + page.part(k, 5) + " " + page.part(k, 6)
                + " " + page.part(k, 7);
    }

    static String line(PageParts page, int part, int i) {
        return page.line(part, i, 0) + " " + page.line(part, i, 1);
    }

    static String cover(PageParts page, int k) {
        return page.cover(k, 0) + " " + page.cover(k, 1) + " " + page.cover(k, 2) + " " + page.cover(k, 3);
    }

    static String cell(PageParts page, int k) {
        return page.cell(k, 0) + " " + page.cell(k, 1) + " " + page.cell(k, 2) + " " + page.cell(k, 3)
                + " " + page.cell(k, 4);
    }

    /** What is told by 0 to 7. */
    static String told(PageParts page) {
        StringBuilder text = new StringBuilder();
        for (int what = 0; what < 8; what++) {
            text.append(what == 0 ? "" : " ").append(page.told(what));
        }
        return text.toString();
    }

    /** The parts in their order. */
    static String order(PageParts page) {
        StringBuilder text = new StringBuilder();
        int parts = page.told(3);
        for (int place = 0; place < parts; place++) {
            text.append(place == 0 ? "" : " ").append(page.order(place));
        }
        return text.toString();
    }

    /** Row by row the part of each sample: a letter from 'a' on, or '.'. */
    static String partsMap(PageParts page) {
        StringBuilder text = new StringBuilder();
        int width = page.told(0);
        int height = page.told(1);
        for (int y = 0; y < height; y++) {
            for (int x = 0; x < width; x++) {
                int k = page.partOf(x, y);
                text.append(k == PageParts.NONE ? '.' : (char) ('a' + k));
            }
            text.append('/');
        }
        return text.toString();
    }

    /** Row by row: '!' is a speck's. */
    static String specksMap(PageParts page) {
        StringBuilder text = new StringBuilder();
        int width = page.told(0);
        int height = page.told(1);
        for (int y = 0; y < height; y++) {
            for (int x = 0; x < width; x++) {
                text.append(page.isSpeck(x, y) ? '!' : '.');
            }
            text.append('/');
        }
        return text.toString();
    }

    /** The strip of each column: a digit, or '-'. */
    static String strips(PageParts page) {
        StringBuilder text = new StringBuilder();
        int width = page.told(0);
        for (int x = 0; x < width; x++) {
            int strip = page.strip(x);
            text.append(strip == PageParts.NONE ? "-" : String.valueOf(strip));
        }
        return text.toString();
    }

    static String all(PageParts page) {
        return all(() -> page);
    }

    /** All that a page answers without being changed; each call is asked of what the supplier gives. */
    static String all(Supplier<PageParts> page) {
        StringBuilder text = new StringBuilder();
        for (int what = -1; what <= 8; what++) {
            text.append(page.get().told(what)).append(' ');
        }
        if (page.get().told(3) == PageParts.NONE) {
            return text.toString();
        }
        addParts(page, text);
        int covers = page.get().told(4);
        for (int k = 0; k < covers; k++) {
            text.append("\ncover");
            for (int what = 0; what < 4; what++) {
                text.append(' ').append(page.get().cover(k, what));
            }
        }
        int cells = page.get().told(6);
        for (int k = 0; k < cells; k++) {
            text.append("\ncell");
            for (int what = 0; what < 5; what++) {
                text.append(' ').append(page.get().cell(k, what));
            }
        }
        addSamples(page, text);
        return text.toString();
    }

    private static void addParts(Supplier<PageParts> page, StringBuilder text) {
        int parts = page.get().told(3);
        for (int k = 0; k < parts; k++) {
            text.append("\npart");
            for (int what = 0; what < 8; what++) {
                text.append(' ').append(page.get().part(k, what));
            }
            int lines = page.get().part(k, 6);
            for (int i = 0; i < lines; i++) {
                text.append(" line ").append(page.get().line(k, i, 0));
                text.append(' ').append(page.get().line(k, i, 1));
            }
        }
        text.append("\norder");
        for (int place = 0; place < parts; place++) {
            text.append(' ').append(page.get().order(place));
        }
    }

    private static void addSamples(Supplier<PageParts> page, StringBuilder text) {
        int width = page.get().told(0);
        int height = page.get().told(1);
        text.append("\nstrips");
        for (int x = 0; x < width; x++) {
            text.append(' ').append(page.get().strip(x));
        }
        for (int y = 0; y < height; y++) {
            text.append('\n');
            for (int x = 0; x < width; x++) {
                text.append(page.get().partOf(x, y)).append(page.get().isSpeck(x, y) ? "! " : " ");
            }
        }
    }

    /** What can be seen, and then what can be seen by changes alone: the noise, and which samples are black. */
    static String inside(PageParts page) {
        String seen = all(page);
        int noise = page.noise(0);
        page.run(0, 0);
        return seen + "\nnoise " + noise + "\nblack " + partsMap(page);
    }
}
