import java.io.IOException;
import java.lang.reflect.InvocationTargetException;
import java.lang.reflect.Method;
import java.nio.charset.StandardCharsets;
import java.nio.file.Files;
import java.nio.file.Path;
import java.util.ArrayList;
import java.util.Comparator;
import java.util.List;
import java.util.function.Supplier;
import java.util.function.ToLongFunction;
import java.util.regex.Matcher;
import java.util.regex.Pattern;

/**
 * Runs cases: static methods promiseNN_case of a class, each with the document's words that it holds to.
 * A refused call is looked at twice: by its answer, and by what each View sees behind it, compared with a twin without that call.
 */
final class Edges {
    static final int BAD = UnlikeGate.BAD, NO = UnlikeGate.NO, FULL = UnlikeGate.FULL, NONE = UnlikeGate.NONE;
    static final int LEAST = Integer.MIN_VALUE, MOST = Integer.MAX_VALUE;
    static final Pattern NAME = Pattern.compile("promise(\\d\\d)_(\\w+)");

    private static final Check CHECK = new Check();
    private static String running = "";

    private Edges() { }

    // ---- cases

    static void run(Class<?> cases) {
        String document = document();
        List<Method> all = casesOf(cases);
        for (Method method : all) {
            running = method.getName() + ": ";
            Says says = method.getAnnotation(Says.class);
            CHECK.holds(running + "quotes the document", says != null);
            for (String words : says == null ? new String[0] : says.value()) {
                CHECK.holds(running + "the document says '" + words + "'", document.contains(words));
            }
            int before = CHECK.asked();
            call(method);
            CHECK.holds(running + "asks something", CHECK.asked() > before);
        }
        System.out.println(all.size() + " cases");
        CHECK.end();
    }

    static List<Method> casesOf(Class<?> cases) {
        List<Method> all = new ArrayList<>();
        for (Method method : cases.getDeclaredMethods()) {
            if (NAME.matcher(method.getName()).matches()) {
                all.add(method);
            }
        }
        all.sort(Comparator.comparing(Method::getName));
        return all;
    }

    /** As one line, so that a quotation may go over a line's end. */
    static String document() {
        try {
            String text = Files.readString(Path.of("../shared/DOC.md"), StandardCharsets.UTF_8);
            return text.replaceAll("\\s+", " ");
        } catch (IOException e) {
            throw new IllegalStateException(e);
        }
    }

    private static void call(Method method) {
        try {
            method.setAccessible(true);
            method.invoke(null);
        } catch (InvocationTargetException e) {
            e.getCause().printStackTrace(System.out);
            CHECK.holds(running + "threw " + e.getCause(), false);
        } catch (IllegalAccessException e) {
            throw new IllegalStateException(e);
        }
    }

    static int promiseOf(Method method) {
        Matcher name = NAME.matcher(method.getName());
        return name.matches() ? Integer.parseInt(name.group(1)) : 0;
    }

    static void is(String call, long got, long due) {
        CHECK.same(running + call, got, due);
    }

    static void holds(String what, boolean is) {
        CHECK.holds(running + what, is);
    }

    // ---- what is asked of many gates

    /** Counts 0 to 8, as one row. */
    static void counts(String when, UnlikeGate gate, int... due) {
        for (int what = 0; what < due.length; what++) {
            is(when + ", count(" + what + ")", gate.count(what), due[what]);
        }
    }

    /** may of all, a figure each. */
    static void may(String when, UnlikeGate gate, String due) {
        for (int i = 0; i < due.length(); i++) {
            is(when + ", may(" + i + ")", gate.may(i), due.charAt(i) - '0');
        }
    }

    static UnlikeGate withRow(String text, String row) {
        UnlikeGate gate = Check.laid(text);
        addAll(gate, row);
        return gate;
    }

    static void addAll(UnlikeGate gate, String row) {
        for (int k = 0; k < row.length(); k++) {
            gate.add(row.charAt(k) - '0');
        }
    }

    static String times(int n, String text) {
        return text.repeat(n);
    }

    // ---- refused calls

    /** By TURNS, with some in, goings to be undone, a gate kept, a row, a text with a fault. */
    static UnlikeGate busy() {
        UnlikeGate gate = Check.laid("t2,1;t3,0;t2,1;p000;p001;p011;p111;p121;p021;l2;g31;");
        gate.goIn(0);
        gate.goIn(1);
        gate.keep();
        gate.goIn(2);
        gate.goIn(3);
        gate.undo();
        addAll(gate, "0123");
        gate.wipe();
        Check.write(gate, "t2,0;p1;p");
        return gate;
    }

    /** As busy, but with another text. */
    static UnlikeGate busyWith(String text) {
        UnlikeGate gate = busy();
        gate.wipe();
        Check.write(gate, text);
        return gate;
    }

    static void refused(String call, Supplier<UnlikeGate> making, ToLongFunction<UnlikeGate> asked, long due) {
        for (View view : View.values()) {
            UnlikeGate gate = making.get();
            is(call, asked.applyAsLong(gate), due);
            is(call + " once more", asked.applyAsLong(gate), due);
            alike(call, view, gate, making.get());
        }
    }

    /** A call that asks only, whatever it answers. */
    static void onlyAsks(String call, Supplier<UnlikeGate> making, ToLongFunction<UnlikeGate> asked) {
        refused(call, making, asked, asked.applyAsLong(making.get()));
    }

    /** A call that changes one part alone: all that the other views see stays. */
    static void changesOnly(View part, String call, Supplier<UnlikeGate> making, ToLongFunction<UnlikeGate> asked) {
        for (View view : View.values()) {
            if (view != part) {
                UnlikeGate gate = making.get();
                asked.applyAsLong(gate);
                alike(call, view, gate, making.get());
            }
        }
    }

    private static void alike(String call, View view, UnlikeGate gate, UnlikeGate twin) {
        List<Long> got = new ArrayList<>();
        List<Long> due = new ArrayList<>();
        view.see(gate, got);
        view.see(twin, due);
        for (int k = 0; k < due.size(); k++) {
            is("behind " + call + ", " + view + " " + k, got.get(k), due.get(k));
        }
    }
}
