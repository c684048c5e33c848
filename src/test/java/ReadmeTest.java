import java.io.ByteArrayOutputStream;
import java.io.IOException;
import java.io.PrintStream;
import java.io.UncheckedIOException;
import java.net.URL;
import java.net.URLClassLoader;
import java.nio.file.Files;
import java.nio.file.Path;
import java.util.ArrayList;
import java.util.Comparator;
import java.util.List;
import java.util.stream.Stream;
import javax.tools.ToolProvider;

/** What README.md shows: its example compiles and prints what stands there, and every test has its word. */
final class ReadmeTest {
    private static final Path README = Path.of("README.md");

    public static void main(String[] args) throws Exception {
        List<String> lines = Files.readAllLines(README);
        Bench.due("examples", blocks(lines, "java").size(), 1);
        Bench.due("what an example prints", blocks(lines, "text").size(), 1);
        example(blocks(lines, "java").get(0), blocks(lines, "text").get(0));
        testsAreNamed(String.join("\n", lines));
        callsAreNamed(String.join("\n", lines));
        Bench.finish("ReadmeTest");
    }

    private static List<List<String>> blocks(List<String> lines, String language) {
        List<List<String>> found = new ArrayList<>();
        List<String> block = null;
        for (String line : lines) {
            if (block == null && line.equals("```" + language)) {
                block = new ArrayList<>();
            } else if (block != null && line.equals("```")) {
                found.add(block);
                block = null;
            } else if (block != null) {
                block.add(line);
            }
        }
        return found;
    }

    private static void example(List<String> code, List<String> due) throws Exception {
        Path work = Files.createTempDirectory("readme");
        try {
            Path file = Files.write(work.resolve("Example.java"), code);
            int compiled = ToolProvider.getSystemJavaCompiler().run(null, null, null, "-Xlint:all", "-Werror", "-d", work.toString(),
                    "-cp", System.getProperty("java.class.path"), file.toString());
            Bench.due("the example compiles", compiled, 0);
            if (compiled == 0) {
                comparePrinted(printed(work), due);
            }
        } finally {
            remove(work);
        }
    }

    private static List<String> printed(Path classes) throws Exception {
        ByteArrayOutputStream bytes = new ByteArrayOutputStream();
        PrintStream old = System.out;
        try (URLClassLoader loader = new URLClassLoader(new URL[] {classes.toUri().toURL()})) {
            System.setOut(new PrintStream(bytes, true));
            loader.loadClass("Example").getMethod("main", String[].class).invoke(null, (Object) new String[0]);
        } finally {
            System.setOut(old);
        }
        return bytes.toString().lines().toList();
    }

    private static void comparePrinted(List<String> printed, List<String> due) {
        Bench.due("lines that the example prints", printed.size(), due.size());
        for (int i = 0; i < Math.min(printed.size(), due.size()); i++) {
            String what = "the example prints \"" + printed.get(i) + "\", README.md has \"" + due.get(i) + "\":";
            Bench.due(what, printed.get(i).equals(due.get(i)) ? 1 : 0, 1);
        }
    }

    private static void remove(Path directory) throws IOException {
        try (Stream<Path> files = Files.walk(directory)) {
            files.sorted(Comparator.reverseOrder()).forEach(ReadmeTest::removeOne);
        }
    }

    private static void removeOne(Path file) {
        try {
            Files.delete(file);
        } catch (IOException failure) {
            throw new UncheckedIOException(failure);
        }
    }

    private static void testsAreNamed(String text) throws IOException {
        Bench.due("how to run the tests", text.contains("`.ci/run`") ? 1 : 0, 1);
        try (Stream<Path> files = Files.list(Path.of("src/test/java"))) {
            for (Path file : files.toList()) {
                String name = file.getFileName().toString().replace(".java", "");
                boolean named = text.contains("`" + name + "`") || text.contains("`" + name + ".java`");
                Bench.due(name + " stands in README.md", named ? 1 : 0, 1);
            }
        }
    }

    private static void callsAreNamed(String text) {
        String[] calls = {"store(place, first, second)", "stored(place)", "set(register, high, low)", "get(register)", "level(user)",
            "step()", "run(n)", "look(high, low, how)"};
        for (String call : calls) {
            Bench.due(call + " stands in README.md", text.contains("| `" + call + "` |") ? 1 : 0, 1);
        }
    }
}
