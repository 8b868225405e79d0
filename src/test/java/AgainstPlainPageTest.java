import java.util.Random;

/** Many pages, always the same ones, against the plain words of the document. */
public final class AgainstPlainPageTest {
    private static final Check CHECK = new Check();

    public static void main(String[] args) {
        Random random = new Random(20261115);
        for (int i = 0; i < 3000; i++) {
            onePage(random, i);
        }
        CHECK.end();
    }

    private static void onePage(Random random, int number) {
        int width = 1 + random.nextInt(24);
        int height = 1 + random.nextInt(24);
        Fresh page = new Fresh(width, height);
        boolean[][] black = new boolean[height][width];
        int noise = 3;
        // The second and third time, what was parted before must not show.
        for (int time = 0; time < 3; time++) {
            change(random, page, black);
            if (random.nextInt(3) > 0) {
                int next = random.nextInt(10) == 0 ? random.nextInt(101) : random.nextInt(6);
                setNoise(page, noise, next);
                noise = next;
            }
            int most = random.nextInt(4) == 0 ? 25 : 4;
            int gapX = random.nextInt(most);
            int gapY = random.nextInt(most);
            page.change(one -> one.run(gapX, gapY));
            String due = new PlainPage(black, noise, gapX, gapY).all();
            CHECK.same("page " + number + " time " + time, due, Pages.all(page));
        }
        CHECK.same("calls are left to ask", true, page.changes() < Pages.MOST_CALLS - 50);
    }

    private static void setNoise(Fresh page, int before, int next) {
        page.change(one -> CHECK.same("noise(" + next + ")", before, one.noise(next)));
    }

    private static void change(Random random, Fresh page, boolean[][] black) {
        int samples = random.nextInt(3) == 0 ? random.nextInt(110) : random.nextInt(12);
        for (int i = 0; i < samples; i++) {
            rectangle(random, page, black, 1, random.nextInt(3) > 0);
        }
        int rectangles = random.nextInt(12);
        for (int i = 0; i < rectangles; i++) {
            rectangle(random, page, black, 1 + random.nextInt(12), random.nextInt(3) > 0);
        }
        if (random.nextBoolean()) {
            hollow(random, page, black);
        }
    }

    private static void rectangle(Random random, Fresh page, boolean[][] black, int most, boolean value) {
        int x = random.nextInt(black[0].length);
        int y = random.nextInt(black.length);
        paint(page, black, new int[] {x, y, 1 + random.nextInt(most), 1 + random.nextInt(most)}, value);
    }

    private static void hollow(Random random, Fresh page, boolean[][] black) {
        int x = random.nextInt(black[0].length);
        int y = random.nextInt(black.length);
        int wide = 3 + random.nextInt(20);
        int high = 3 + random.nextInt(20);
        paint(page, black, new int[] {x, y, wide, high}, true);
        if (x + 1 < black[0].length && y + 1 < black.length) {
            paint(page, black, new int[] {x + 1, y + 1, wide - 2, high - 2}, false);
        }
    }

    private static void paint(Fresh page, boolean[][] black, int[] box, boolean value) {
        int changed = 0;
        for (int y = box[1]; y < Math.min(box[1] + box[3], black.length); y++) {
            for (int x = box[0]; x < Math.min(box[0] + box[2], black[0].length); x++) {
                changed += black[y][x] == value ? 0 : 1;
                black[y][x] = value;
            }
        }
        int due = changed;
        page.change(one -> CHECK.same("fill", due, one.fill(box[0], box[1], box[2], box[3], value)));
    }
}
