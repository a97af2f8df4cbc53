import java.lang.reflect.Method;
import java.util.ArrayList;
import java.util.List;

/** That each promise has cases, one for each refusal that its heading's text names, in the class of its group. */
public final class EdgesCoverTest {
    private static final Check CHECK = new Check();
    private static final int PROMISES = 26;
    private static final String[][] ENDINGS = {{"BAD", "_isBad"}, {"NO", "_isNo"}, {"NONE", "_isNone"}, {"FULL", "_isFull"}};

    public static void main(String[] args) {
        String document = Edges.document();
        List<Method> cases = new ArrayList<>();
        Class<?>[] all = {GatesEdgesTest.class, InAndOutEdgesTest.class, RowsEdgesTest.class, BetweenEdgesTest.class};
        for (Class<?> each : all) {
            cases.addAll(Edges.casesOf(each));
        }
        for (int promise = 1; promise <= PROMISES; promise++) {
            compare(promise, sentence(document, promise), cases);
        }
        CHECK.same("cases of no promise", cases.stream().filter(c -> Edges.promiseOf(c) > PROMISES).count(), 0);
        CHECK.end();
    }

    /** From a promise's heading to the next heading. */
    private static String sentence(String document, int promise) {
        int from = document.indexOf("## Promise " + promise + ":");
        CHECK.holds("the document has promise " + promise, from >= 0);
        int to = document.indexOf("## ", from + 1);
        return from < 0 ? "" : document.substring(from, to < 0 ? document.length() : to);
    }

    private static void compare(int promise, String sentence, List<Method> cases) {
        List<String> names = new ArrayList<>();
        for (Method each : cases) {
            if (Edges.promiseOf(each) == promise) {
                names.add(each.getName());
            }
        }
        CHECK.holds("promise " + promise + " has cases", !names.isEmpty());
        for (String[] ending : ENDINGS) {
            boolean said = sentence.matches(".*\\b" + ending[0] + "\\b.*");
            boolean tested = names.stream().anyMatch(name -> name.endsWith(ending[1]));
            CHECK.holds("promise " + promise + " says " + ending[0] + " and has a case of it", said == tested);
        }
    }
}
