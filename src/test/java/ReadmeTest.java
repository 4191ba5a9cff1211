import java.io.IOException;
import java.lang.reflect.Method;
import java.lang.reflect.Modifier;
import java.nio.file.Files;
import java.nio.file.Path;

/** README.md's example answers as it says there, and README.md names every method of the face. */
public final class ReadmeTest {
    private static final Path README = Path.of("README.md");
    /** The example line by line: it is what example() makes, so the two are changed together. */
    private static final String[] LINES = {
        "SpinKernel x = new SpinKernel();",
        "x.task(0, 0, 5, 20, 20, 4);",
        "x.request(0, 2, 0, 3, SpinKernel.NONE);",
        "x.task(1, 1, 5, 20, 20, 4);",
        "x.request(1, 2, 0, 3, SpinKernel.NONE);",
        "x.bound(1, 2);                              // 10",
        "if (x.seal() == SpinKernel.NONE) {",
        "    x.arrive(0);",
        "    x.arrive(1);",
        "    x.tick(3);                              // 0",
        "    x.core(0, 1);                           // HOLDS",
        "    x.core(1, 1);                           // SPINS",
        "    x.row(0, 1);                            // 1",
        "    x.tick(17);                             // 2",
        "    x.jobs(1, 2);                           // 10",
        "    x.spun(1, 0);                           // 3",
        "    x.late();                               // 0",
        "    x.unseal();",
        "}",
    };

    public static void main(String[] args) throws IOException {
        String text = Files.readString(README);
        example();
        exampleIsTheReadmes(text);
        everyMethodIsNamed(text);
        Check.due("README.md tells how the tests are run", text.contains("\n    .ci/run\n") ? 1 : 0, 1);
        Check.finish();
    }

    private static void example() {
        SpinKernel x = new SpinKernel();
        x.task(0, 0, 5, 20, 20, 4);
        Check.due("request(0, 2, 0, 3, NONE)", x.request(0, 2, 0, 3, SpinKernel.NONE), 0);
        x.task(1, 1, 5, 20, 20, 4);
        Check.due("request(1, 2, 0, 3, NONE)", x.request(1, 2, 0, 3, SpinKernel.NONE), 0);
        Check.due("bound(1, 2)", x.bound(1, 2), 10);
        Check.due("seal()", x.seal(), SpinKernel.NONE);
        Check.due("arrive(0)", x.arrive(0) ? 1 : 0, 1);
        Check.due("arrive(1)", x.arrive(1) ? 1 : 0, 1);
        Check.due("tick(3)", x.tick(3), 0);
        Check.due("core(0, 1)", x.core(0, 1), SpinKernel.HOLDS);
        Check.due("core(1, 1)", x.core(1, 1), SpinKernel.SPINS);
        Check.due("row(0, 1)", x.row(0, 1), 1);
        Check.due("tick(17)", x.tick(17), 2);
        Check.due("jobs(1, 2)", x.jobs(1, 2), 10);
        Check.due("spun(1, 0)", x.spun(1, 0), 3);
        Check.due("late()", x.late(), 0);
        x.unseal();
    }

    private static void exampleIsTheReadmes(String text) {
        int start = text.indexOf("```java\n");
        int end = text.indexOf("\n```\n", Math.max(start, 0));
        Check.due("README.md has an example", start >= 0 && end > start ? 1 : 0, 1);
        if (start < 0 || end <= start) {
            return;
        }
        String[] lines = text.substring(start + "```java\n".length(), end).split("\n");
        Check.due("lines of the example", lines.length, LINES.length);
        for (int i = 0; i < Math.min(lines.length, LINES.length); i++) {
            boolean isIt = lines[i].startsWith(LINES[i]);
            Check.due("example, line " + lines[i], isIt ? 1 : 0, 1);
        }
    }

    private static void everyMethodIsNamed(String text) {
        for (Method method : SpinKernel.class.getDeclaredMethods()) {
            if (Modifier.isPublic(method.getModifiers())) {
                boolean isNamed = text.contains("`" + method.getName() + "(");
                Check.due("README.md names " + method.getName(), isNamed ? 1 : 0, 1);
            }
        }
    }
}
