import java.io.IOException;
import java.lang.reflect.Method;
import java.lang.reflect.Modifier;
import java.nio.file.Files;
import java.nio.file.Path;

/** A copy of README.md's example, with the answers that are written beside it there. */
public final class ReadmeTest {
    private static final Check CHECK = new Check();

    public static void main(String[] args) throws IOException {
        example();
        everyMethodIsNamed(Files.readString(Path.of("README.md")));
        CHECK.end();
    }

    private static void example() {
        PageParts page = new PageParts(20, 12);
        page.fill(12, 0, 7, 7, true);
        page.fill(0, 1, 9, 8, true);
        page.fill(1, 2, 7, 6, false);
        page.fill(0, 10, 15, 1, true);
        page.put(4, 4, true);
        CHECK.same("parts", 3, page.run(1, 0));
        int[] order = {1, 0, 2};
        int[] kinds = {3, 2, 1};
        for (int place = 0; place < 3; place++) {
            CHECK.same("order", order[place], page.order(place));
            CHECK.same("kind", kinds[place], page.part(page.order(place), 5));
        }
        CHECK.same("speck", true, page.isSpeck(4, 4));
        CHECK.same("cell", 42, page.cell(0, 4));
    }

    private static void everyMethodIsNamed(String readme) {
        for (Method method : PageParts.class.getDeclaredMethods()) {
            if (Modifier.isPublic(method.getModifiers())) {
                CHECK.same(method.getName(), true, readme.contains("| `" + method.getName() + "("));
            }
        }
    }
}
