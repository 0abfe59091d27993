import java.io.IOException;
import java.nio.file.Files;
import java.nio.file.Path;
import java.util.List;

/** Some rules of LANGUAGE.md that can be seen in the lines of the source, whose path is the argument. */
public final class LanguageTest {
    private static final int MOST_LINES = 60;
    private static final int MOST_PARAMETERS = 7;
    private static final int MOST_CLASSES = 12;
    private static final String[] FORBIDDEN = {
        "->", "::", "synchronized", "assert ", "finally", "Exact(", "static {", "getMessage", "hashCode",
        "System.out", "System.err", "System.current", "System.nano", "Math.random", "package ", "protected ",
    };

    private LanguageTest() {
    }

    public static void main(String[] args) throws IOException {
        List<String> lines = Files.readAllLines(Path.of(args.length > 0 ? args[0] : "src/main/java/EmpireTurns.java"));
        int classes = 0;
        int begun = 0;
        for (int i = 0; i < lines.size(); i++) {
            String line = lines.get(i);
            String code = withoutComment(line);
            for (String word : FORBIDDEN) {
                Check.holds("line " + (i + 1) + " has " + word, !code.contains(word));
            }
            Check.holds("line " + (i + 1) + " joins texts", !code.contains("\" +") && !code.contains("+ \""));
            Check.holds("line " + (i + 1) + " has strange signs", line.chars().allMatch(c -> c >= 32 && c < 127));
            Check.holds("line " + (i + 1) + " imports", !code.startsWith("import ")
                || code.equals("import java.util.ArrayList;") || code.equals("import java.util.Arrays;"));
            Check.holds("line " + (i + 1) + " is a changing static", !code.contains(" static ")
                || code.contains("(") || code.contains("final"));
            classes += code.contains(" class ") ? 1 : 0;
            if (isHead(code)) {
                begun = i;
                Check.holds("line " + (i + 1) + " has many parameters", parameters(code) <= MOST_PARAMETERS);
            }
            if (code.equals("    }") || code.equals("        }")) {
                Check.holds("line " + (begun + 1) + " begins a long method", i - begun < MOST_LINES);
            }
        }
        Check.holds("classes", classes > 0 && classes <= MOST_CLASSES);
        Check.finish("LanguageTest");
    }

    private static String withoutComment(String line) {
        String code = line.trim();
        if (code.startsWith("/**") || code.startsWith("*") || code.startsWith("//")) {
            return "";
        }
        return line;
    }

    private static boolean isHead(String code) {
        String start = code.trim();
        return code.matches(" {4,8}\\S.*") && !code.matches(" {9,}.*") && code.contains("(")
            && (code.endsWith("{") || code.endsWith(")")) && !start.startsWith("for") && !start.startsWith("if")
            && !start.startsWith("switch") && !start.startsWith("}") && !start.startsWith("return");
    }

    private static int parameters(String head) {
        String inside = head.substring(head.indexOf('(') + 1);
        return inside.startsWith(")") ? 0 : inside.split(",").length;
    }
}
