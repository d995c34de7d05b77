import java.io.IOException;
import java.lang.reflect.Method;
import java.lang.reflect.Modifier;
import java.nio.file.Files;
import java.nio.file.Path;
import java.util.ArrayList;
import java.util.List;
import java.util.stream.Stream;

/** README.md: its example gives the answers written beside it, and it names each call and each test. */
public final class ReadmeTest {
    private static final Path README = Path.of("README.md");
    private static final Path TESTS = Path.of("src/test/java");

    private ReadmeTest() {
    }

    public static void main(String[] args) throws IOException {
        example();
        exampleIsTheOneWritten();
        namesEachCall();
        namesEachTest();
        Check.end();
    }

    private static void example() {
        FilterPipe pipe = new FilterPipe(8);
        pipe.format(8, false, false);
        pipe.halfPower(4, false);
        pipe.resample(3, 2);
        int corner = pipe.response(0, 4);
        pipe.start();

        for (int i = 0; i < 4; i++) {
            pipe.bytes(4, 0x80c0ffc0);
        }
        pipe.close();
        int steps = 1;
        while (steps > 0) {
            steps = pipe.produce(100) + pipe.consume(100);
        }
        int ends = pipe.state();
        int size = 2 * pipe.waiting(3);
        int second = pipe.sinkByte(3) << 8 | pipe.sinkByte(2);
        long tone = pipe.power(1);

        Check.due("corner", corner, 2047);
        Check.due("ends", ends, 10);
        Check.due("size", size, 52);
        Check.due("second", second, 723);
        Check.due("tone", tone, 1282845118789L);
    }

    // The example stands twice, in README.md and above: so a change of one alone is seen here.
    private static void exampleIsTheOneWritten() throws IOException {
        String readme = Files.readString(README);
        String written = readme.split("```java\n")[1].split("```")[0];
        String run = Files.readString(TESTS.resolve("ReadmeTest.java"));
        String body = run.substring(run.indexOf("FilterPipe pipe"), run.indexOf("Check.due"));
        Check.same("a line of the example", codeLines(written), codeLines(body));
    }

    private static List<String> codeLines(String text) {
        List<String> lines = new ArrayList<>();
        for (String line : text.split("\n")) {
            String code = line.replaceAll("//.*", "").trim();
            if (!code.isEmpty()) {
                lines.add(code);
            }
        }
        return lines;
    }

    private static void namesEachCall() throws IOException {
        String readme = Files.readString(README);
        for (Method method : FilterPipe.class.getDeclaredMethods()) {
            if (Modifier.isPublic(method.getModifiers())) {
                Check.due("README.md tells " + method.getName(), readme.contains("`" + method.getName() + "("), true);
            }
        }
    }

    private static void namesEachTest() throws IOException {
        String readme = Files.readString(README);
        try (Stream<Path> files = Files.list(TESTS)) {
            for (Path file : files.toList()) {
                String name = file.getFileName().toString().replace(".java", "");
                Check.due("README.md names " + name, readme.contains("`" + name + "`"), true);
            }
        }
    }
}
