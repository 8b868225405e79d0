/** Pages drawn as rows of text, and all that a page answers as one text. */
final class Pages {
    private Pages() {
    }

    /** '#' is black, all else white. */
    static PageParts draw(String... rows) {
        PageParts page = new PageParts(rows[0].length(), rows.length);
        for (int y = 0; y < rows.length; y++) {
            for (int x = 0; x < rows[y].length(); x++) {
                if (rows[y].charAt(x) == '#') {
                    page.put(x, y, true);
                }
            }
        }
        return page;
    }

    /** Drawn, without noise, and parted. */
    static PageParts parted(int gapX, int gapY, String... rows) {
        PageParts page = draw(rows);
        page.noise(0);
        page.run(gapX, gapY);
        return page;
    }

    /** First column, first row, width, height of a part. */
    static String box(PageParts page, int k) {
        return page.part(k, 0) + " " + page.part(k, 1) + " " + page.part(k, 2) + " " + page.part(k, 3);
    }

    static String cover(PageParts page, int k) {
        return page.cover(k, 0) + " " + page.cover(k, 1) + " " + page.cover(k, 2) + " " + page.cover(k, 3);
    }

    static String cell(PageParts page, int k) {
        return page.cell(k, 0) + " " + page.cell(k, 1) + " " + page.cell(k, 2) + " " + page.cell(k, 3)
                + " " + page.cell(k, 4);
    }

    /** The parts in their order. */
    static String order(PageParts page) {
        StringBuilder text = new StringBuilder();
        for (int place = 0; place < page.told(3); place++) {
            text.append(place == 0 ? "" : " ").append(page.order(place));
        }
        return text.toString();
    }

    /** Row by row the part of each sample: a letter from 'a' on, or '.'. */
    static String partsMap(PageParts page) {
        StringBuilder text = new StringBuilder();
        for (int y = 0; y < page.told(1); y++) {
            for (int x = 0; x < page.told(0); x++) {
                int k = page.partOf(x, y);
                text.append(k == PageParts.NONE ? '.' : (char) ('a' + k));
            }
            text.append('/');
        }
        return text.toString();
    }

    /** All that the page answers without being changed. */
    static String all(PageParts page) {
        StringBuilder text = new StringBuilder();
        for (int what = -1; what <= 8; what++) {
            text.append(page.told(what)).append(' ');
        }
        if (page.told(3) == PageParts.NONE) {
            return text.toString();
        }
        addParts(page, text);
        for (int k = 0; k < page.told(4); k++) {
            text.append("\ncover ").append(cover(page, k));
        }
        for (int k = 0; k < page.told(6); k++) {
            text.append("\ncell ").append(cell(page, k));
        }
        text.append("\norder ").append(order(page)).append("\nstrips");
        for (int x = 0; x < page.told(0); x++) {
            text.append(' ').append(page.strip(x));
        }
        addSamples(page, text);
        return text.toString();
    }

    private static void addParts(PageParts page, StringBuilder text) {
        for (int k = 0; k < page.told(3); k++) {
            text.append("\npart");
            for (int what = 0; what < 8; what++) {
                text.append(' ').append(page.part(k, what));
            }
            for (int i = 0; i < page.part(k, 6); i++) {
                text.append(" line ").append(page.line(k, i, 0)).append(' ').append(page.line(k, i, 1));
            }
        }
    }

    private static void addSamples(PageParts page, StringBuilder text) {
        for (int y = 0; y < page.told(1); y++) {
            text.append('\n');
            for (int x = 0; x < page.told(0); x++) {
                text.append(page.partOf(x, y)).append(page.isSpeck(x, y) ? "! " : " ");
            }
        }
    }
}
