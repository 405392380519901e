import java.io.File;
import java.io.IOException;
import java.lang.reflect.Method;
import java.lang.reflect.Modifier;
import java.nio.file.Files;
import java.nio.file.Paths;

/** README.md names every call and every test, and the answers of its example are so. */
public final class ReadmeTest {
    private final String page;

    private ReadmeTest(String page) {
        this.page = page;
    }

    public static void main(String[] args) throws IOException {
        ReadmeTest test = new ReadmeTest(new String(Files.readAllBytes(Paths.get("README.md"))));
        test.example();
        test.calls();
        test.tests();
        Check.end("ReadmeTest");
    }

    private void example() {
        Cascadecourt court = new Cascadecourt();
        int row = court.tell(51, 2);
        says("court.tell(51, 2)", 0, row);
        says("court.ofRow(row, 1)", 1, court.ofRow(row, 1));
        int props = court.ofRow(row, 2);
        says("court.ofRow(row, 2)", 3, props);
        says("court.take(props)", 7, court.take(props));
        says("court.way(row)", 1, court.way(row));
        int height = court.first(row);
        says("court.first(row)", 4, height);
        says("court.toss(height)", 0, court.toss(height));
        says("court.run(row, 0, 6)", 0, court.run(row, 0, 6));
        says("court.tired()", 2.75, court.tired());
        says("court.toss(0)", -1, court.toss(0));
        says("court.many(5)", 1, court.many(5));
        Check.that("the calls of the example", 11, page.split("= court\\.", -1).length - 1);
    }

    /** The page has the call with that answer, and it is the one that comes. */
    private void says(String call, Object due, Object got) {
        Check.that(call, due, got);
        boolean said = page.lines().anyMatch(line -> line.contains("= " + call + ";") && line.contains("// " + due + ": "));
        Check.that("README.md says that " + call + " answers " + due, true, said);
    }

    private void calls() {
        for (Method method : Cascadecourt.class.getDeclaredMethods()) {
            if (Modifier.isPublic(method.getModifiers())) {
                Check.that("README.md tells of " + method.getName(), true,
                        page.contains("| `" + method.getName() + "("));
            }
        }
    }

    private void tests() {
        String[] files = new File("src/test/java").list();
        Check.that("there are tests", true, files != null && files.length > 0);
        for (String file : files) {
            String name = "`" + file.replace(".java", "") + "`";
            Check.that("README.md tells of " + name, true, page.contains(name));
        }
    }
}
