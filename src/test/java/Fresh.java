import java.util.ArrayList;
import java.util.List;
import java.util.function.Consumer;
import java.util.function.Supplier;

/**
 * A page to ask as much as one likes: when the calls that the document promises are used up, a new object goes
 * through the same changes, and is asked then.
 */
final class Fresh implements Supplier<PageParts> {
    private final int width;
    private final int height;
    private final List<Consumer<PageParts>> changes = new ArrayList<>();
    private PageParts page;
    private int left;

    Fresh(int width, int height) {
        this.width = width;
        this.height = height;
    }

    /** For each change one call; they have to leave some of the promised calls. */
    void change(Consumer<PageParts> one) {
        changes.add(one);
        page = null;
    }

    int changes() {
        return changes.size();
    }

    @Override
    public PageParts get() {
        if (page == null || left == 0) {
            page = new PageParts(width, height);
            for (Consumer<PageParts> one : changes) {
                one.accept(page);
            }
            left = Pages.MOST_CALLS - changes.size();
        }
        left--;
        return page;
    }
}
