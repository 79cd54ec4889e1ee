import java.io.ByteArrayOutputStream;
import java.io.IOException;
import java.io.InputStream;
import java.nio.charset.StandardCharsets;
import java.nio.file.Files;
import java.nio.file.Path;
import java.util.Arrays;
import java.util.Comparator;
import java.util.List;
import java.util.stream.Collectors;
import java.util.stream.Stream;
import javax.tools.ToolProvider;

/** The example of README.md compiles and prints what stands there, and README.md names every call and every test. */
public final class ReadmeTest {
    private static final String FENCE = "```";

    public static void main(String[] args) throws IOException, InterruptedException {
        Due due = new Due("ReadmeTest");
        String readme = Files.readString(Path.of("README.md"));
        String told = block(readme, "text");
        String printed = run(block(readme, "java"));
        due.is("the example prints what README.md says, not\n" + printed, printed.equals(told), true);
        Arrays.stream(CounterMine.class.getDeclaredMethods())
                .filter(method -> java.lang.reflect.Modifier.isPublic(method.getModifiers()))
                .forEach(method -> due.is("README.md names " + method, readme.contains("`" + method.getName() + "`"), true));
        for (String test : tests()) {
            due.is("README.md names " + test, readme.contains("`" + test + "`"), true);
        }
        due.end();
    }

    /** The first block of a sort; empty if there is none. */
    private static String block(String readme, String sort) {
        int head = readme.indexOf(FENCE + sort + "\n");
        int from = head + FENCE.length() + sort.length() + 1;
        int end = readme.indexOf(FENCE, from);
        return head < 0 || end < 0 ? "" : readme.substring(from, end);
    }

    private static List<String> tests() throws IOException {
        try (Stream<Path> files = Files.list(Path.of("src/test/java"))) {
            return files.map(file -> file.getFileName().toString()).filter(name -> name.endsWith("Test.java"))
                    .map(name -> name.substring(0, name.length() - ".java".length())).collect(Collectors.toList());
        }
    }

    private static String run(String source) throws IOException, InterruptedException {
        Path room = Files.createTempDirectory("readme");
        try {
            Path file = Files.writeString(room.resolve("Example.java"), source);
            ByteArrayOutputStream faults = new ByteArrayOutputStream();
            int failed = ToolProvider.getSystemJavaCompiler().run(null, null, faults, "-d", room.toString(),
                    file.toString(), "src/main/java/CounterMine.java");
            return failed == 0 ? printedBy(room) : faults.toString(StandardCharsets.UTF_8);
        } finally {
            remove(room);
        }
    }

    private static String printedBy(Path room) throws IOException, InterruptedException {
        String java = Path.of(System.getProperty("java.home"), "bin", "java").toString();
        Process process = new ProcessBuilder(java, "-cp", room.toString(), "Example").redirectErrorStream(true).start();
        try (InputStream out = process.getInputStream()) {
            String printed = new String(out.readAllBytes(), StandardCharsets.UTF_8);
            process.waitFor();
            return printed;
        }
    }

    private static void remove(Path room) throws IOException {
        try (Stream<Path> all = Files.walk(room)) {
            for (Path path : all.sorted(Comparator.reverseOrder()).collect(Collectors.toList())) {
                Files.delete(path);
            }
        }
    }
}
