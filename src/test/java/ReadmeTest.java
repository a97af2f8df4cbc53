import java.io.IOException;
import java.lang.reflect.InvocationTargetException;
import java.lang.reflect.Method;
import java.lang.reflect.Modifier;
import java.net.URL;
import java.net.URLClassLoader;
import java.nio.charset.StandardCharsets;
import java.nio.file.Files;
import java.nio.file.Path;
import java.util.ArrayList;
import java.util.List;
import java.util.regex.Matcher;
import java.util.regex.Pattern;
import javax.tools.ToolProvider;

/** Runs what README.md has as Java, in its order, and compares each answer with the one that stands behind the call. */
public final class ReadmeTest {
    private static final Pattern BLOCK = Pattern.compile("(?s)```java\n(.*?)```");
    private static final Pattern CALL = Pattern.compile("(gate\\.(\\w+)\\(.*?\\)); +// (\\d+|BAD|NO|NONE|FULL)\\b.*");
    private static final Check CHECK = new Check();

    public static void main(String[] args) throws IOException, ReflectiveOperationException {
        String readme = Files.readString(Path.of("README.md"), StandardCharsets.UTF_8);
        StringBuilder members = new StringBuilder();
        StringBuilder lines = new StringBuilder();
        Matcher blocks = BLOCK.matcher(readme);
        while (blocks.find()) {
            (blocks.group(1).startsWith("static") ? members : lines).append(blocks.group(1));
        }
        Path made = Files.createTempDirectory("readme");
        try {
            run(made, "public final class Page {\npublic static void run(java.util.List<Object[]> seen) {\n" + checked(lines.toString())
                + "}\n" + members + "}\n");
        } finally {
            remove(made);
        }
        for (Method method : UnlikeGate.class.getDeclaredMethods()) {
            boolean shown = Modifier.isPrivate(method.getModifiers()) || lines.indexOf("gate." + method.getName() + "(") >= 0;
            CHECK.holds(method.getName() + " is shown", shown);
        }
        CHECK.end();
    }

    /** Each call with an answer behind it is compared; what has none is run as it stands. */
    private static String checked(String lines) {
        StringBuilder text = new StringBuilder();
        for (String line : lines.split("\n")) {
            Matcher call = CALL.matcher(line);
            if (call.matches()) {
                String due = Character.isDigit(call.group(3).charAt(0)) ? call.group(3) : "UnlikeGate." + call.group(3);
                text.append("seen.add(new Object[] {\"README: ").append(call.group(1)).append("\", (long) ");
                text.append(call.group(1)).append(", (long) ").append(due).append("});\n");
            } else {
                CHECK.holds("an answer stands behind " + line, !line.startsWith("gate."));
                text.append(line).append('\n');
            }
        }
        return text.toString();
    }

    private static void run(Path made, String source) throws IOException, ReflectiveOperationException {
        Path file = made.resolve("Page.java");
        Files.writeString(file, source);
        String path = System.getProperty("java.class.path");
        int code = ToolProvider.getSystemJavaCompiler().run(null, null, null, "-d", made.toString(), "-cp", path, file.toString());
        CHECK.same("compiled", code, 0);
        if (code != 0) {
            return;
        }
        try (URLClassLoader loader = new URLClassLoader(new URL[] {made.toUri().toURL()})) {
            List<Object[]> seen = new ArrayList<>();
            loader.loadClass("Page").getMethod("run", List.class).invoke(null, seen);
            seen.forEach(call -> CHECK.same((String) call[0], (long) call[1], (long) call[2]));
        } catch (InvocationTargetException e) {
            throw new IllegalStateException(e.getCause());
        }
    }

    private static void remove(Path made) throws IOException {
        for (String name : new String[] {"Page.java", "Page.class"}) {
            Files.deleteIfExists(made.resolve(name));
        }
        Files.deleteIfExists(made);
    }
}
