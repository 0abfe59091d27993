import java.io.ByteArrayOutputStream;
import java.io.IOException;
import java.nio.charset.StandardCharsets;
import java.nio.file.Files;
import java.nio.file.Path;
import java.util.ArrayList;
import java.util.Comparator;
import java.util.List;
import java.util.stream.Stream;
import javax.tools.JavaCompiler;
import javax.tools.ToolProvider;

/** The example of README.md, run as it stands, prints what the comments behind its printing lines say. */
public final class ReadmeTest {
    private static final String PRINTS = "System.out.println(";

    private ReadmeTest() {
    }

    public static void main(String[] args) throws IOException, InterruptedException {
        List<String> example = example(Files.readAllLines(Path.of("README.md")));
        List<String> due = new ArrayList<>();
        for (String line : example) {
            if (line.contains(PRINTS)) {
                Check.holds("it does not say what it prints: " + line, line.contains("; ") && line.contains("// "));
                due.add(line.substring(line.indexOf("// ") + 3).trim());
            }
        }
        List<String> got = printed(example);
        Check.holds("it prints nothing", !due.isEmpty());
        Check.holds("README.md says that its example prints " + due + ", but it prints " + got, due.equals(got));
        Check.finish("ReadmeTest");
    }

    private static List<String> example(List<String> lines) {
        int begin = lines.indexOf("```java");
        List<String> behind = lines.subList(begin + 1, lines.size());
        Check.holds("README.md has an example", begin >= 0 && behind.contains("```"));
        return behind.subList(0, Math.max(0, behind.indexOf("```")));
    }

    private static List<String> printed(List<String> example) throws IOException, InterruptedException {
        Path folder = Files.createTempDirectory("readme");
        try {
            Path file = folder.resolve("Example.java");
            Files.writeString(file, "class Example {\n    public static void main(String[] args) {\n"
                + String.join("\n", example) + "\n    }\n}\n");
            String path = System.getProperty("java.class.path");
            JavaCompiler compiler = ToolProvider.getSystemJavaCompiler();
            ByteArrayOutputStream told = new ByteArrayOutputStream();
            int code = compiler.run(null, told, told, "-cp", path, "-d", folder.toString(), file.toString());
            Check.same("the example of README.md is not taken: " + told, code, 0);
            return code == 0 ? run(path, folder) : List.of();
        } finally {
            remove(folder);
        }
    }

    private static List<String> run(String path, Path folder) throws IOException, InterruptedException {
        String java = Path.of(System.getProperty("java.home"), "bin", "java").toString();
        String both = path + System.getProperty("path.separator") + folder;
        Process process = new ProcessBuilder(java, "-cp", both, "Example").redirectErrorStream(true).start();
        String text = new String(process.getInputStream().readAllBytes(), StandardCharsets.UTF_8);
        Check.same("the example of README.md ended with", process.waitFor(), 0);
        return text.lines().toList();
    }

    private static void remove(Path folder) throws IOException {
        List<Path> paths;
        try (Stream<Path> inside = Files.walk(folder)) {
            paths = inside.sorted(Comparator.reverseOrder()).toList();
        }
        for (Path path : paths) {
            Files.delete(path);
        }
    }
}
