import java.io.IOException;
import java.nio.charset.StandardCharsets;
import java.nio.file.Files;
import java.nio.file.Path;
import java.util.List;
import java.util.regex.Matcher;
import java.util.regex.Pattern;

/** What of LANGUAGE.md can be seen in the source as it stands. */
public final class SourceTest {
    private static final Check CHECK = new Check();
    private static final String[] NEVER = {
        "\\btry\\b", "\\bcatch\\b", "\\bfinally\\b", "\\bthrow\\b", "\\bthrows\\b", "\\bsynchronized\\b", "\\bassert\\b",
        "\\binstanceof\\b", "\\bprotected\\b", "\\bpackage\\b", "->", "::", "\\bdouble\\b", "\\bfloat\\b", "Exact\\b",
        "\\bwhile\\b", "static \\{", "\\bString\\b.*\\+", "\\.equals\\(", "hashCode", "toString", "\\bObject\\b"};

    public static void main(String[] args) throws IOException {
        Path path = Path.of("src/main/java/UnlikeGate.java");
        List<String> lines = Files.readAllLines(path, StandardCharsets.US_ASCII);
        words(lines);
        library(lines);
        loopsAndMethods(lines);
        CHECK.end();
    }

    private static String code(String line) {
        String text = line.trim();
        if (text.startsWith("/*") || text.startsWith("*") || text.startsWith("//")) {
            return "";
        }
        return text;
    }

    private static void words(List<String> lines) {
        for (String never : NEVER) {
            Pattern pattern = Pattern.compile(never);
            for (String line : lines) {
                CHECK.holds(never + " in: " + line, !pattern.matcher(code(line)).find());
            }
        }
    }

    private static void library(List<String> lines) {
        Pattern use = Pattern.compile("\\b(Math|Integer|Long|Arrays|System|String|StringBuilder|List|ArrayList)\\.(\\w+)");
        List<String> fine = List.of("Math.max", "Math.min", "Math.abs", "Integer.bitCount", "Arrays.fill",
            "System.arraycopy");
        for (String line : lines) {
            if (line.startsWith("import")) {
                CHECK.holds(line, line.equals("import java.util.Arrays;"));
                continue;
            }
            CHECK.holds("by its whole name: " + line, !code(line).contains("java."));
            Matcher matcher = use.matcher(code(line));
            while (matcher.find()) {
                CHECK.holds(matcher.group(), fine.contains(matcher.group()));
            }
        }
    }

    private static void loopsAndMethods(List<String> lines) {
        Pattern head = Pattern.compile("^( {4}| {8})(public |private |static |final )*[\\w\\[\\]]+ ?\\w*\\(([^)]*)\\) \\{$");
        int classes = 0;
        int methods = 0;
        for (int k = 0; k < lines.size(); k++) {
            String line = lines.get(k);
            CHECK.holds("width: " + line, line.length() <= 120);
            classes += Pattern.matches(".*\\bclass \\w+ \\{", line) ? 1 : 0;
            Matcher matcher = head.matcher(line);
            if (matcher.matches()) {
                methods++;
                int end = k;
                while (!lines.get(end).equals(matcher.group(1) + "}")) {
                    end++;
                }
                CHECK.holds("short: " + line, end - k <= 60);
                CHECK.holds("few parameters: " + line, matcher.group(3).split(",").length <= 7);
            }
        }
        CHECK.holds("classes: " + classes, classes <= 12);
        CHECK.holds("methods were seen: " + methods, methods > 60);
    }
}
