import java.lang.reflect.Method;
import java.util.ArrayList;
import java.util.List;
import java.util.regex.Matcher;
import java.util.regex.Pattern;

/**
 * That each promise has cases, one for each refusal that its heading's text names, in the class of its group,
 * and that no words of the document are left that no case quotes.
 */
public final class EdgesCoverTest {
    private static final Check CHECK = new Check();
    private static final int PROMISES = 26;
    /** What is no sentence to hold to: headings, calls' heads, fences, and what is told of the interface's comments. */
    private static final String[] FRAME = {"^# UnlikeGate ## What it is In one thing unlike the last: ", "======== \\d",
        "## The public face ```java .*?```", "## Terms", "```text", "```", "Ahead of the calls .*? ---- [a-z ]+\\.",
        "## Promise \\d+: [\\w ]+ `[^`]+`:", "## Not promised .*"};
    private static final String[][] ENDINGS = {{"BAD", "_isBad"}, {"NO", "_isNo"}, {"NONE", "_isNone"}, {"FULL", "_isFull"}};

    public static void main(String[] args) {
        String document = Edges.document();
        List<Method> cases = new ArrayList<>();
        Class<?>[] all = {GatesEdgesTest.class, InAndOutEdgesTest.class, RowsEdgesTest.class, BetweenEdgesTest.class};
        for (Class<?> each : all) {
            cases.addAll(Edges.casesOf(each));
        }
        for (int promise = 1; promise <= PROMISES; promise++) {
            compare(promise, sentence(document, promise), cases);
        }
        words(document, cases);
        CHECK.same("cases of no promise", cases.stream().filter(c -> Edges.promiseOf(c) > PROMISES).count(), 0);
        CHECK.end();
    }

    /** What is quoted goes, and the frame; no letter may be left then. */
    private static void words(String document, List<Method> cases) {
        StringBuilder left = new StringBuilder(document);
        List<Method> quoting = new ArrayList<>(cases);
        quoting.addAll(List.of(AgreeTest.class.getDeclaredMethods()));
        for (Method each : quoting) {
            Says says = each.getAnnotation(Says.class);
            for (String words : says == null ? new String[0] : says.value()) {
                CHECK.holds("the document says '" + words + "'", document.contains(words));
                for (int at = document.indexOf(words); at >= 0; at = document.indexOf(words, at + 1)) {
                    blot(left, at, at + words.length());
                }
            }
        }
        for (String frame : FRAME) {
            Matcher matcher = Pattern.compile(frame).matcher(document);
            while (matcher.find()) {
                blot(left, matcher.start(), matcher.end());
            }
        }
        for (String rest : left.toString().split("~+")) {
            CHECK.holds("no case quotes '" + rest + "'", !rest.matches(".*\\w.*"));
        }
    }

    private static void blot(StringBuilder text, int from, int to) {
        for (int at = from; at < to; at++) {
            text.setCharAt(at, '~');
        }
    }

    /** From a promise's heading to the next heading. */
    private static String sentence(String document, int promise) {
        int from = document.indexOf("## Promise " + promise + ":");
        CHECK.holds("the document has promise " + promise, from >= 0);
        int to = document.indexOf("## ", from + 1);
        return from < 0 ? "" : document.substring(from, to < 0 ? document.length() : to);
    }

    private static void compare(int promise, String sentence, List<Method> cases) {
        List<String> names = new ArrayList<>();
        for (Method each : cases) {
            if (Edges.promiseOf(each) == promise) {
                names.add(each.getName());
            }
        }
        CHECK.holds("promise " + promise + " has cases", !names.isEmpty());
        for (String[] ending : ENDINGS) {
            boolean said = sentence.matches(".*\\b" + ending[0] + "\\b.*");
            boolean tested = names.stream().anyMatch(name -> name.endsWith(ending[1]));
            CHECK.holds("promise " + promise + " says " + ending[0] + " and has a case of it", said == tested);
        }
    }
}
