import java.util.Arrays;

/** A page of black and white samples, parted into what a reader would look at. */
public final class PageParts {
    public static final int NONE = -1;

    private static final int SIDE = 24;
    private static final int AREA = SIDE * SIDE;
    /** Two samples side by side are never in two groups of a kind, so at most every second one has its own. */
    private static final int MOST_GROUPS = AREA / 2;

    private static final int FIRST_NOISE = 3;
    private static final int MOST_NOISE = 100;
    private static final int MOST_GAP = 24;

    private static final int TEXT = 0;
    private static final int RULE = 1;
    private static final int PICTURE = 2;
    private static final int FRAME = 3;
    private static final int RULE_THICK = 2;
    private static final int RULE_TIMES = 5;
    private static final int LEAST_GREAT_SIDE = 7;

    private static final int MOST_COVERS = 6;
    private static final int LEAST_COVER = 4;

    private final int width;
    private final int height;
    private final boolean[] black = new boolean[AREA];
    private final boolean[] clean = new boolean[AREA];
    private final boolean[] ink = new boolean[AREA];
    private final int[] strips = new int[SIDE];
    private final Groups parts;
    private final Groups cells;
    private final Covers covers;
    private final Reading reading;
    private int blackCount;
    private int cleanCount;
    private int stripCount;
    private int noiseNow;
    private boolean parted;

    public PageParts(int width, int height) {
        this.width = nearestSide(width);
        this.height = nearestSide(height);
        parts = new Groups(this.width, this.height);
        cells = new Groups(this.width, this.height);
        covers = new Covers(this.width, this.height);
        reading = new Reading();
        noiseNow = FIRST_NOISE;
    }

    public boolean put(int x, int y, boolean black) throws IndexOutOfBoundsException {
        mustBeSample(x, y);
        parted = false;
        return paint(x, y, black);
    }

    public int fill(int x, int y, int wide, int high, boolean black)
            throws IndexOutOfBoundsException, IllegalArgumentException {
        mustBeSample(x, y);
        if (wide < 1 || high < 1) {
            throw new IllegalArgumentException("a rectangle is at least 1 wide and 1 high");
        }
        parted = false;
        // The sides are cut down first, for x + wide may be more than an int holds.
        int endX = x + Math.min(wide, width - x);
        int endY = y + Math.min(high, height - y);
        int changed = 0;
        for (int row = y; row < endY; row++) {
            for (int column = x; column < endX; column++) {
                if (paint(column, row, black)) {
                    changed++;
                }
            }
        }
        return changed;
    }

    public int noise(int less) throws IllegalArgumentException {
        if (less < 0 || less > MOST_NOISE) {
            throw new IllegalArgumentException("noise is 0 .. 100");
        }
        int before = noiseNow;
        noiseNow = less;
        parted = false;
        return before;
    }

    public int run(int gapX, int gapY) throws IllegalArgumentException {
        if (gapX < 0 || gapX > MOST_GAP || gapY < 0 || gapY > MOST_GAP) {
            throw new IllegalArgumentException("a gap is 0 .. 24");
        }
        findClean();
        smear(gapX, gapY);
        parts.find(ink, true, false);
        covers.find(ink);
        findStrips();
        cells.find(clean, false, false);
        cells.dropAtEdge();
        reading.arrange(parts);
        parted = true;
        return parts.count;
    }

    public int part(int k, int what)
            throws IllegalStateException, IndexOutOfBoundsException, IllegalArgumentException {
        mustBeParted();
        mustBeBelow(k, parts.count);
        mustBeTold(what, 8);
        switch (what) {
            case 4:
                return weightOf(k);
            case 5:
                return kindOf(k);
            case 6:
                return countLines(k);
            case 7:
                return parts.size[k];
            default:
                return parts.boxOf(k, what);
        }
    }

    public int partOf(int x, int y) throws IllegalStateException, IndexOutOfBoundsException {
        mustBeParted();
        mustBeSample(x, y);
        return parts.label[y * SIDE + x];
    }

    public int line(int part, int i, int what)
            throws IllegalStateException, IndexOutOfBoundsException, IllegalArgumentException {
        mustBeParted();
        mustBeBelow(part, parts.count);
        mustBeBelow(i, countLines(part));
        mustBeTold(what, 2);
        int first = firstRowOfLine(part, i);
        return what == 0 ? first : countRowsOfLine(part, first);
    }

    public int order(int place) throws IllegalStateException, IndexOutOfBoundsException {
        mustBeParted();
        mustBeBelow(place, parts.count);
        return reading.sequence[place];
    }

    public int cover(int k, int what)
            throws IllegalStateException, IndexOutOfBoundsException, IllegalArgumentException {
        mustBeParted();
        mustBeBelow(k, covers.count);
        mustBeTold(what, 4);
        switch (what) {
            case 0:
                return covers.left[k];
            case 1:
                return covers.top[k];
            case 2:
                return covers.wide[k];
            default:
                return covers.high[k];
        }
    }

    public int strip(int x) throws IllegalStateException, IndexOutOfBoundsException {
        mustBeParted();
        mustBeBelow(x, width);
        return strips[x];
    }

    public int cell(int k, int what)
            throws IllegalStateException, IndexOutOfBoundsException, IllegalArgumentException {
        mustBeParted();
        mustBeBelow(k, cells.count);
        mustBeTold(what, 5);
        return what == 4 ? cells.size[k] : cells.boxOf(k, what);
    }

    public boolean isSpeck(int x, int y) throws IllegalStateException, IndexOutOfBoundsException {
        mustBeParted();
        mustBeSample(x, y);
        int at = y * SIDE + x;
        return black[at] && !clean[at];
    }

    public int told(int what) {
        switch (what) {
            case 0:
                return width;
            case 1:
                return height;
            case 2:
                return blackCount;
            default:
                return parted ? toldOfParted(what) : NONE;
        }
    }

    public void clear() {
        for (int at = 0; at < AREA; at++) {
            black[at] = false;
        }
        blackCount = 0;
        noiseNow = FIRST_NOISE;
        parted = false;
    }

    private static int nearestSide(int side) {
        return Math.max(1, Math.min(SIDE, side));
    }

    private void mustBeParted() {
        if (!parted) {
            throw new IllegalStateException("the page was not parted, or changed since");
        }
    }

    private void mustBeSample(int x, int y) {
        if (x < 0 || x >= width || y < 0 || y >= height) {
            throw new IndexOutOfBoundsException("no such sample");
        }
    }

    private static void mustBeBelow(int index, int count) {
        if (index < 0 || index >= count) {
            throw new IndexOutOfBoundsException("there is none of this number");
        }
    }

    private static void mustBeTold(int what, int count) {
        if (what < 0 || what >= count) {
            throw new IllegalArgumentException("nothing is told by this number");
        }
    }

    private boolean paint(int x, int y, boolean value) {
        int at = y * SIDE + x;
        if (black[at] == value) {
            return false;
        }
        black[at] = value;
        blackCount += value ? 1 : -1;
        return true;
    }

    private int toldOfParted(int what) {
        switch (what) {
            case 3:
                return parts.count;
            case 4:
                return covers.count;
            case 5:
                return stripCount;
            case 6:
                return cells.count;
            case 7:
                return blackCount - cleanCount;
            default:
                return NONE;
        }
    }

    private void findClean() {
        // Cells are found later, so their rows serve for the black groups here.
        cells.find(black, true, true);
        cleanCount = 0;
        for (int at = 0; at < AREA; at++) {
            int group = cells.label[at];
            clean[at] = group != NONE && cells.size[group] >= noiseNow;
            ink[at] = clean[at];
            if (clean[at]) {
                cleanCount++;
            }
        }
    }

    private void smear(int gapX, int gapY) {
        for (int y = 0; y < height; y++) {
            smearAlong(y * SIDE, 1, width, gapX);
        }
        for (int x = 0; x < width; x++) {
            smearAlong(x, SIDE, height, gapY);
        }
    }

    private void smearAlong(int first, int step, int length, int gap) {
        int last = NONE;
        for (int i = 0; i < length; i++) {
            if (!clean[first + i * step]) {
                continue;
            }
            if (last != NONE && i - last - 1 <= gap) {
                for (int between = last + 1; between < i; between++) {
                    ink[first + between * step] = true;
                }
            }
            last = i;
        }
    }

    private void findStrips() {
        stripCount = 0;
        boolean within = false;
        for (int x = 0; x < width; x++) {
            boolean inked = hasInk(x);
            if (inked && !within) {
                stripCount++;
            }
            strips[x] = inked ? stripCount - 1 : NONE;
            within = inked;
        }
    }

    private boolean hasInk(int x) {
        for (int y = 0; y < height; y++) {
            if (ink[y * SIDE + x]) {
                return true;
            }
        }
        return false;
    }

    private int weightOf(int k) {
        int weight = 0;
        for (int at = 0; at < AREA; at++) {
            if (clean[at] && parts.label[at] == k) {
                weight++;
            }
        }
        return weight;
    }

    private int kindOf(int k) {
        int wide = parts.wideOf(k);
        int high = parts.highOf(k);
        if (isThin(wide, high) || isThin(high, wide)) {
            return RULE;
        }
        if (wide < LEAST_GREAT_SIDE || high < LEAST_GREAT_SIDE) {
            return TEXT;
        }
        if (isFramed(k) && isMostlyEmptyWithin(k)) {
            return FRAME;
        }
        int dark = countClean(parts.left[k], parts.top[k], wide, high);
        return 2 * dark >= wide * high ? PICTURE : TEXT;
    }

    private static boolean isThin(int length, int thick) {
        return thick <= RULE_THICK && length >= RULE_TIMES * thick;
    }

    private boolean isFramed(int k) {
        int left = parts.left[k];
        int top = parts.top[k];
        int wide = parts.wideOf(k);
        int high = parts.highOf(k);
        return 4 * countClean(left, top, wide, 1) >= 3 * wide
                && 4 * countClean(left, parts.bottom[k], wide, 1) >= 3 * wide
                && 4 * countClean(left, top, 1, high) >= 3 * high
                && 4 * countClean(parts.right[k], top, 1, high) >= 3 * high;
    }

    private boolean isMostlyEmptyWithin(int k) {
        int wide = parts.wideOf(k) - 2;
        int high = parts.highOf(k) - 2;
        return 4 * countClean(parts.left[k] + 1, parts.top[k] + 1, wide, high) <= wide * high;
    }

    /** Whose the clean black is does not matter: the document asks it of the box, not of the part. */
    private int countClean(int left, int top, int wide, int high) {
        int count = 0;
        for (int y = top; y < top + high; y++) {
            for (int x = left; x < left + wide; x++) {
                if (clean[y * SIDE + x]) {
                    count++;
                }
            }
        }
        return count;
    }

    private int countLines(int k) {
        int count = 0;
        for (int y = parts.top[k]; y <= parts.bottom[k]; y++) {
            if (beginsLine(k, y)) {
                count++;
            }
        }
        return count;
    }

    private int firstRowOfLine(int k, int i) {
        int seen = 0;
        for (int y = parts.top[k]; y <= parts.bottom[k]; y++) {
            if (beginsLine(k, y)) {
                if (seen == i) {
                    return y;
                }
                seen++;
            }
        }
        return NONE;
    }

    private int countRowsOfLine(int k, int first) {
        int end = first;
        while (end <= parts.bottom[k] && hasCleanOf(k, end)) {
            end++;
        }
        return end - first;
    }

    private boolean beginsLine(int k, int y) {
        return hasCleanOf(k, y) && !hasCleanOf(k, y - 1);
    }

    private boolean hasCleanOf(int k, int y) {
        if (y < 0 || y >= height) {
            return false;
        }
        for (int x = parts.left[k]; x <= parts.right[k]; x++) {
            int at = y * SIDE + x;
            if (clean[at] && parts.label[at] == k) {
                return true;
            }
        }
        return false;
    }

    /** The groups of one kind of sample, numbered by their first samples, with their boxes and sizes. */
    private static final class Groups {
        final int[] label = new int[AREA];
        final int[] left = new int[MOST_GROUPS];
        final int[] top = new int[MOST_GROUPS];
        final int[] right = new int[MOST_GROUPS];
        final int[] bottom = new int[MOST_GROUPS];
        final int[] size = new int[MOST_GROUPS];
        int count;
        private final int[] queue = new int[AREA];
        private final int width;
        private final int height;

        Groups(int width, int height) {
            this.width = width;
            this.height = height;
        }

        void find(boolean[] marks, boolean kind, boolean corners) {
            Arrays.fill(label, NONE);
            count = 0;
            for (int y = 0; y < height; y++) {
                for (int x = 0; x < width; x++) {
                    if (isOpen(marks, kind, x, y) && count < MOST_GROUPS) {
                        begin(x, y);
                        gather(marks, kind, corners);
                        count++;
                    }
                }
            }
        }

        private boolean isOpen(boolean[] marks, boolean kind, int x, int y) {
            if (x < 0 || x >= width || y < 0 || y >= height) {
                return false;
            }
            int at = y * SIDE + x;
            return marks[at] == kind && label[at] == NONE;
        }

        private void begin(int x, int y) {
            left[count] = x;
            top[count] = y;
            right[count] = x;
            bottom[count] = y;
            size[count] = 0;
            take(x, y);
        }

        private void take(int x, int y) {
            int at = y * SIDE + x;
            label[at] = count;
            queue[size[count]] = at;
            size[count]++;
            left[count] = Math.min(left[count], x);
            right[count] = Math.max(right[count], x);
            bottom[count] = Math.max(bottom[count], y);
        }

        private void gather(boolean[] marks, boolean kind, boolean corners) {
            for (int i = 0; i < AREA && i < size[count]; i++) {
                int x = queue[i] % SIDE;
                int y = queue[i] / SIDE;
                for (int nextY = y - 1; nextY <= y + 1; nextY++) {
                    for (int nextX = x - 1; nextX <= x + 1; nextX++) {
                        boolean bySide = nextX == x || nextY == y;
                        if ((bySide || corners) && isOpen(marks, kind, nextX, nextY)) {
                            take(nextX, nextY);
                        }
                    }
                }
            }
        }

        /** What is left is numbered anew; the labels are not, as nobody asks for them then. */
        void dropAtEdge() {
            int kept = 0;
            for (int k = 0; k < count; k++) {
                if (left[k] > 0 && top[k] > 0 && right[k] < width - 1 && bottom[k] < height - 1) {
                    left[kept] = left[k];
                    top[kept] = top[k];
                    right[kept] = right[k];
                    bottom[kept] = bottom[k];
                    size[kept] = size[k];
                    kept++;
                }
            }
            count = kept;
        }

        int wideOf(int k) {
            return right[k] - left[k] + 1;
        }

        int highOf(int k) {
            return bottom[k] - top[k] + 1;
        }

        int boxOf(int k, int what) {
            switch (what) {
                case 0:
                    return left[k];
                case 1:
                    return top[k];
                case 2:
                    return wideOf(k);
                default:
                    return highOf(k);
            }
        }
    }

    /** The greatest rectangles without ink, each without those before it. */
    private static final class Covers {
        final int[] left = new int[MOST_COVERS];
        final int[] top = new int[MOST_COVERS];
        final int[] wide = new int[MOST_COVERS];
        final int[] high = new int[MOST_COVERS];
        int count;
        /** From each sample on to the right, how many are free one beside the other. */
        private final int[] reach = new int[AREA];
        private final int width;
        private final int height;
        private int greatest;

        Covers(int width, int height) {
            this.width = width;
            this.height = height;
        }

        void find(boolean[] ink) {
            measure(ink);
            count = 0;
            for (int k = 0; k < MOST_COVERS; k++) {
                findGreatest(k);
                if (greatest < LEAST_COVER) {
                    return;
                }
                block(k);
                count++;
            }
        }

        private void measure(boolean[] ink) {
            for (int y = 0; y < height; y++) {
                int free = 0;
                for (int x = width - 1; x >= 0; x--) {
                    int at = y * SIDE + x;
                    free = ink[at] ? 0 : free + 1;
                    reach[at] = free;
                }
            }
        }

        private void findGreatest(int k) {
            greatest = 0;
            for (int y = 0; y < height; y++) {
                for (int x = 0; x < width; x++) {
                    growFrom(k, x, y);
                }
            }
        }

        /** Only what is greater takes the place, so of equals the uppermost, leftmost, least high one stays. */
        private void growFrom(int k, int x, int y) {
            int across = width - x;
            for (int down = 1; down <= height - y; down++) {
                across = Math.min(across, reach[(y + down - 1) * SIDE + x]);
                if (across * (height - y) <= greatest) {
                    return;
                }
                if (across * down > greatest) {
                    greatest = across * down;
                    left[k] = x;
                    top[k] = y;
                    wide[k] = across;
                    high[k] = down;
                }
            }
        }

        private void block(int k) {
            int end = left[k] + wide[k];
            for (int y = top[k]; y < top[k] + high[k]; y++) {
                for (int x = left[k]; x < end; x++) {
                    reach[y * SIDE + x] = 0;
                }
                shortenBefore(left[k], y);
            }
        }

        private void shortenBefore(int end, int y) {
            for (int x = end - 1; x >= 0; x--) {
                int at = y * SIDE + x;
                reach[at] = Math.min(reach[at], end - x);
            }
        }
    }

    /** The order in which parts are read. */
    private static final class Reading {
        final int[] sequence = new int[MOST_GROUPS];
        private final int[] behind = new int[MOST_GROUPS];
        private final int[] ends = new int[MOST_GROUPS];
        private int cutAt;
        private int cutGap;
        private boolean cutsRows;

        /** Stretches of the sequence are cut from the front on; the ends of those still open lie in a stack. */
        void arrange(Groups parts) {
            sortByBoxes(parts);
            int start = 0;
            int open = 0;
            ends[open] = parts.count;
            // A step makes one more stretch or ends one, and there are at most as many as parts.
            for (int step = 0; step < 2 * MOST_GROUPS && open >= 0; step++) {
                int end = ends[open];
                if (findCut(parts, start, end) && open + 1 < MOST_GROUPS) {
                    open++;
                    ends[open] = divide(parts, start, end);
                } else {
                    start = end;
                    open--;
                }
            }
        }

        /** This is the order without a cut; dividing keeps it on both sides. */
        private void sortByBoxes(Groups parts) {
            for (int k = 0; k < parts.count; k++) {
                int place = k;
                while (place > 0 && isBefore(parts, k, sequence[place - 1])) {
                    sequence[place] = sequence[place - 1];
                    place--;
                }
                sequence[place] = k;
            }
        }

        private static boolean isBefore(Groups parts, int a, int b) {
            if (parts.top[a] != parts.top[b]) {
                return parts.top[a] < parts.top[b];
            }
            if (parts.left[a] != parts.left[b]) {
                return parts.left[a] < parts.left[b];
            }
            return a < b;
        }

        private boolean findCut(Groups parts, int start, int end) {
            cutGap = NONE;
            lookAlong(parts.left, parts.right, start, end, false);
            lookAlong(parts.top, parts.bottom, start, end, true);
            return cutGap != NONE;
        }

        /** Only a wider gap takes the place, so columns, looked at first, go before rows, and the first before others. */
        private void lookAlong(int[] first, int[] last, int start, int end, boolean rows) {
            int covered = 0;
            int crossed = 0;
            for (int i = start; i < end; i++) {
                int k = sequence[i];
                covered |= bits(first[k], last[k]);
                crossed |= bits(first[k] + 1, last[k]);
            }
            int free = NONE;
            for (int at = 0; at < SIDE; at++) {
                if (!hasBit(covered, at)) {
                    continue;
                }
                if (free != NONE && !hasBit(crossed, at) && at - free > cutGap) {
                    cutGap = at - free;
                    cutAt = at;
                    cutsRows = rows;
                }
                free = at + 1;
            }
        }

        private static int bits(int from, int to) {
            return (1 << (to + 1)) - (1 << from);
        }

        private static boolean hasBit(int bits, int at) {
            return (bits >> at & 1) != 0;
        }

        private int divide(Groups parts, int start, int end) {
            int[] last = cutsRows ? parts.bottom : parts.right;
            int kept = start;
            int moved = 0;
            for (int i = start; i < end; i++) {
                int k = sequence[i];
                if (last[k] < cutAt) {
                    sequence[kept] = k;
                    kept++;
                } else {
                    behind[moved] = k;
                    moved++;
                }
            }
            System.arraycopy(behind, 0, sequence, kept, moved);
            return kept;
        }
    }
}
