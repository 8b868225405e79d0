import java.util.ArrayList;
import java.util.Arrays;
import java.util.Comparator;
import java.util.List;
import java.util.function.BiPredicate;

/** The document's terms word by word, however slow; it tells all in the form of Pages.all. */
final class PlainPage {
    private final int width;
    private final int height;
    private final boolean[][] black;
    private final boolean[][] clean;
    private final boolean[][] ink;
    private final List<List<int[]>> parts;
    private final List<int[]> boxes = new ArrayList<>();

    PlainPage(boolean[][] black, int noise, int gapX, int gapY) {
        this.black = black;
        height = black.length;
        width = black[0].length;
        clean = new boolean[height][width];
        for (List<int[]> group : groups((x, y) -> black[y][x], true)) {
            for (int[] at : group) {
                clean[at[1]][at[0]] = group.size() >= noise;
            }
        }
        ink = new boolean[height][width];
        for (int y = 0; y < height; y++) {
            for (int x = 0; x < width; x++) {
                ink[y][x] = clean[y][x] || between(x, y, 1, 0) <= gapX || between(x, y, 0, 1) <= gapY;
            }
        }
        parts = groups((x, y) -> ink[y][x], false);
        for (List<int[]> part : parts) {
            boxes.add(box(part));
        }
    }

    /** How many that are not clean black are between the nearest that are, either way. */
    private int between(int x, int y, int dx, int dy) {
        int before = way(x, y, -dx, -dy);
        int behind = way(x, y, dx, dy);
        return before < 0 || behind < 0 ? Integer.MAX_VALUE : before + behind - 1;
    }

    private int way(int x, int y, int dx, int dy) {
        int steps = 0;
        for (int i = x, j = y; i >= 0 && j >= 0 && i < width && j < height; i += dx, j += dy) {
            if (clean[j][i]) {
                return steps;
            }
            steps++;
        }
        return -1;
    }

    private List<List<int[]>> groups(BiPredicate<Integer, Integer> kind, boolean corners) {
        boolean[][] seen = new boolean[height][width];
        List<List<int[]>> all = new ArrayList<>();
        for (int y = 0; y < height; y++) {
            for (int x = 0; x < width; x++) {
                List<int[]> group = new ArrayList<>();
                grow(x, y, kind, corners, seen, group);
                if (!group.isEmpty()) {
                    all.add(group);
                }
            }
        }
        return all;
    }

    private void grow(int x, int y, BiPredicate<Integer, Integer> kind, boolean corners, boolean[][] seen, List<int[]> group) {
        if (x < 0 || y < 0 || x >= width || y >= height || seen[y][x] || !kind.test(x, y)) {
            return;
        }
        seen[y][x] = true;
        group.add(new int[] {x, y});
        for (int dx = -1; dx <= 1; dx++) {
            for (int dy = -1; dy <= 1; dy++) {
                if (corners || dx == 0 || dy == 0) {
                    grow(x + dx, y + dy, kind, corners, seen, group);
                }
            }
        }
    }

    /** First column, first row, width, height. */
    private static int[] box(List<int[]> group) {
        int left = group.stream().mapToInt(at -> at[0]).min().getAsInt();
        int top = group.stream().mapToInt(at -> at[1]).min().getAsInt();
        int right = group.stream().mapToInt(at -> at[0]).max().getAsInt();
        int bottom = group.stream().mapToInt(at -> at[1]).max().getAsInt();
        return new int[] {left, top, right - left + 1, bottom - top + 1};
    }

    private int dark(int left, int top, int wide, int high) {
        int count = 0;
        for (int y = top; y < top + high; y++) {
            for (int x = left; x < left + wide; x++) {
                count += clean[y][x] ? 1 : 0;
            }
        }
        return count;
    }

    private int kind(int[] box) {
        int wide = box[2];
        int high = box[3];
        if (high <= 2 && wide >= 5 * high || wide <= 2 && high >= 5 * wide) {
            return 1;
        }
        boolean great = wide >= 7 && high >= 7;
        boolean framed = great
                && dark(box[0], box[1], wide, 1) >= 0.75 * wide
                && dark(box[0], box[1] + high - 1, wide, 1) >= 0.75 * wide
                && dark(box[0], box[1], 1, high) >= 0.75 * high
                && dark(box[0] + wide - 1, box[1], 1, high) >= 0.75 * high
                && dark(box[0] + 1, box[1] + 1, wide - 2, high - 2) <= 0.25 * (wide - 2) * (high - 2);
        if (framed) {
            return 3;
        }
        return great && dark(box[0], box[1], wide, high) >= 0.5 * wide * high ? 2 : 0;
    }

    private List<int[]> lines(int k) {
        boolean[] rows = new boolean[height + 1];
        for (int[] at : parts.get(k)) {
            rows[at[1]] |= clean[at[1]][at[0]];
        }
        List<int[]> lines = new ArrayList<>();
        for (int y = 0; y < height; y++) {
            if (rows[y] && (y == 0 || !rows[y - 1])) {
                int end = y;
                while (rows[end]) {
                    end++;
                }
                lines.add(new int[] {y, end - y});
            }
        }
        return lines;
    }

    private List<int[]> covers() {
        boolean[][] taken = new boolean[height][];
        for (int y = 0; y < height; y++) {
            taken[y] = ink[y].clone();
        }
        List<int[]> covers = new ArrayList<>();
        for (int k = 0; k < 6; k++) {
            int[] best = greatest(taken);
            if (best[2] * best[3] < 4) {
                break;
            }
            covers.add(best);
            for (int y = best[1]; y < best[1] + best[3]; y++) {
                Arrays.fill(taken[y], best[0], best[0] + best[2], true);
            }
        }
        return covers;
    }

    private int[] greatest(boolean[][] taken) {
        int[][] sum = new int[height + 1][width + 1];
        for (int y = 0; y < height; y++) {
            for (int x = 0; x < width; x++) {
                sum[y + 1][x + 1] = sum[y][x + 1] + sum[y + 1][x] - sum[y][x] + (taken[y][x] ? 1 : 0);
            }
        }
        int[] best = {0, 0, 0, 0};
        for (int high = height; high >= 1; high--) {
            for (int wide = width; wide >= 1; wide--) {
                for (int y = height - high; y >= 0; y--) {
                    for (int x = width - wide; x >= 0; x--) {
                        int[] one = {x, y, wide, high};
                        if (sum[y + high][x + wide] - sum[y][x + wide] - sum[y + high][x] + sum[y][x] == 0
                                && isBetter(one, best)) {
                            best = one;
                        }
                    }
                }
            }
        }
        return best;
    }

    private static boolean isBetter(int[] one, int[] best) {
        int more = one[2] * one[3] - best[2] * best[3];
        if (more != 0) {
            return more > 0;
        }
        if (one[1] != best[1]) {
            return one[1] < best[1];
        }
        return one[0] != best[0] ? one[0] < best[0] : one[3] < best[3];
    }

    private List<Integer> order(List<Integer> some) {
        int bestGap = -1;
        int bestAxis = 0;
        int bestAt = 0;
        for (int axis = 0; axis < 2; axis++) {
            for (int at = 1; at < (axis == 0 ? width : height); at++) {
                int gap = gap(some, axis, at);
                if (gap > bestGap) {
                    bestGap = gap;
                    bestAxis = axis;
                    bestAt = at;
                }
            }
        }
        List<Integer> answer = new ArrayList<>();
        if (bestGap < 0) {
            answer.addAll(some);
            answer.sort(Comparator.comparingInt((Integer k) -> boxes.get(k)[1])
                    .thenComparingInt(k -> boxes.get(k)[0]).thenComparingInt(k -> k));
            return answer;
        }
        List<Integer> before = new ArrayList<>();
        List<Integer> behind = new ArrayList<>();
        for (int k : some) {
            (boxes.get(k)[bestAxis] < bestAt ? before : behind).add(k);
        }
        answer.addAll(order(before));
        answer.addAll(order(behind));
        return answer;
    }

    /** -1 if it is no cut; else the columns (rows) without a box on both sides of it. */
    private int gap(List<Integer> some, int axis, int at) {
        boolean before = false;
        boolean behind = false;
        boolean[] covered = new boolean[25];
        for (int k : some) {
            int first = boxes.get(k)[axis];
            int end = first + boxes.get(k)[axis + 2];
            if (first < at && end > at) {
                return -1;
            }
            before |= end <= at;
            behind |= first >= at;
            Arrays.fill(covered, first, end, true);
        }
        if (!before || !behind) {
            return -1;
        }
        int gap = 0;
        for (int i = at - 1; !covered[i]; i--) {
            gap++;
        }
        for (int i = at; !covered[i]; i++) {
            gap++;
        }
        return gap;
    }

    private List<List<int[]>> cells() {
        List<List<int[]>> cells = new ArrayList<>();
        for (List<int[]> group : groups((x, y) -> !clean[y][x], false)) {
            boolean atEdge = group.stream().anyMatch(
                    at -> at[0] == 0 || at[1] == 0 || at[0] == width - 1 || at[1] == height - 1);
            if (!atEdge) {
                cells.add(group);
            }
        }
        return cells;
    }

    private int[] strips() {
        int[] strips = new int[width];
        int count = 0;
        for (int x = 0; x < width; x++) {
            boolean inked = false;
            for (int y = 0; y < height; y++) {
                inked |= ink[y][x];
            }
            strips[x] = inked ? count : -1;
            if (!inked && x > 0 && strips[x - 1] >= 0) {
                count++;
            }
        }
        return strips;
    }

    private int partOf(int x, int y) {
        for (int k = 0; k < parts.size(); k++) {
            for (int[] at : parts.get(k)) {
                if (at[0] == x && at[1] == y) {
                    return k;
                }
            }
        }
        return -1;
    }

    private static String joined(int[] numbers) {
        StringBuilder text = new StringBuilder();
        for (int number : numbers) {
            text.append(text.length() == 0 ? "" : " ").append(number);
        }
        return text.toString();
    }

    String all() {
        StringBuilder text = new StringBuilder();
        int blackCount = 0;
        int speckCount = 0;
        for (int y = 0; y < height; y++) {
            for (int x = 0; x < width; x++) {
                blackCount += black[y][x] ? 1 : 0;
                speckCount += black[y][x] && !clean[y][x] ? 1 : 0;
            }
        }
        List<int[]> covers = covers();
        List<List<int[]>> cells = cells();
        int[] strips = strips();
        int stripCount = Arrays.stream(strips).max().getAsInt() + 1;
        int[] told = {-1, width, height, blackCount, parts.size(), covers.size(), stripCount, cells.size(), speckCount, -1};
        text.append(joined(told)).append(' ');
        List<Integer> numbers = new ArrayList<>();
        for (int k = 0; k < parts.size(); k++) {
            numbers.add(k);
            addPart(k, text);
        }
        text.append("\norder");
        for (int k : order(numbers)) {
            text.append(' ').append(k);
        }
        for (int[] one : covers) {
            text.append("\ncover ").append(joined(one));
        }
        for (List<int[]> one : cells) {
            text.append("\ncell ").append(joined(box(one))).append(' ').append(one.size());
        }
        text.append("\nstrips ").append(joined(strips));
        for (int y = 0; y < height; y++) {
            text.append('\n');
            for (int x = 0; x < width; x++) {
                text.append(partOf(x, y)).append(black[y][x] && !clean[y][x] ? "! " : " ");
            }
        }
        return text.toString();
    }

    private void addPart(int k, StringBuilder text) {
        int weight = 0;
        for (int[] at : parts.get(k)) {
            weight += clean[at[1]][at[0]] ? 1 : 0;
        }
        List<int[]> lines = lines(k);
        text.append("\npart ").append(joined(boxes.get(k))).append(' ').append(weight).append(' ')
                .append(kind(boxes.get(k))).append(' ').append(lines.size()).append(' ').append(parts.get(k).size());
        for (int[] line : lines) {
            text.append(" line ").append(joined(line));
        }
    }
}
