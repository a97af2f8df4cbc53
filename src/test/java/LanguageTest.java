import java.io.IOException;
import java.nio.charset.StandardCharsets;
import java.nio.file.Files;
import java.nio.file.Path;
import java.util.List;

/** That the class breaks no rule of LANGUAGE.md that Language sees, and that Language sees each of these. */
public final class LanguageTest {
    private static final Check CHECK = new Check();
    private static final String NOTHING = "";

    public static void main(String[] args) throws IOException {
        String source = Files.readString(Path.of("src/main/java/UnlikeGate.java"), StandardCharsets.ISO_8859_1);
        List<String> breaches = Language.breachesOf(source);
        breaches.forEach(System.out::println);
        CHECK.same("breaches in the class", breaches.size(), 0);
        fine(NOTHING, "for (int k = 0; k < 9; k++) { if (k > 4) { continue; } a[k] = k; }");
        fine(NOTHING, "int k = n > 0 ? 9 / n : 0; if (k == 2) { k /= 3; } b = k > 1 && a[0] == 0;");
        members();
        statements();
        CHECK.end();
    }

    private static String source(String members, String statements) {
        return "public final class UnlikeGate {\n" + members + "\nprivate static final int[] FIXED = {1, 2};\n"
            + "private final int[] a = new int[9];\nprivate boolean b;\n"
            + "public int may(int n) {\n" + statements + "\nreturn 1;\n}\n}\n";
    }

    private static void fine(String members, String statements) {
        List<String> breaches = Language.breachesOf(source(members, statements));
        CHECK.holds("fine: " + members + statements + " but " + breaches, breaches.isEmpty());
    }

    private static void broken(int rule, String members, String statements) {
        List<String> breaches = Language.breachesOf(source(members, statements));
        boolean seen = breaches.stream().anyMatch(breach -> breach.startsWith("rule " + rule + ":"));
        CHECK.holds("rule " + rule + " is broken by " + members + statements + ", seen are " + breaches, seen);
    }

    private static void member(int rule, String members) {
        broken(rule, members, NOTHING);
    }

    private static void statement(int rule, String statements) {
        broken(rule, NOTHING, statements);
    }

    private static void members() {
        member(1, "int open;");
        member(1, "protected void open() { }");
        member(1, "public static final class Open { }");
        member(1, "private static class Open { }");
        member(2, "private final class Inner { }");
        member(3, "private double d;");
        member(3, "private Object o;");
        member(3, "private int[][][] cube;");
        member(3, "private static final class Of<T> { }");
        member(4, "// " + (char) 233);
        member(5, "private static int count;");
        member(5, "private static final int[] MADE = new int[3];");
        member(5, "static { }");
        member(6, "public String toString() { return AT; } private static final String AT = \"a\";");
        member(6, "private void leave() throws IllegalStateException { }");
        member(8, "private int down(int n) { return n < 1 ? 0 : down(n - 1); }");
        member(8, "private int one(int n) { return other(n); } private int other(int n) { return one(n); }");
        member(11, "private int eight(int a, int b, int c, int d, int e, int f, int g, int h) { return a; }");
        member(11, "private int tall() {" + "\n".repeat(60) + "return 1; }");
        StringBuilder chain = new StringBuilder("private int m0() { return 0; }");
        StringBuilder classes = new StringBuilder();
        StringBuilder fields = new StringBuilder();
        for (int k = 1; k <= 12; k++) {
            chain.append("private int m").append(k).append("() { return m").append(k - 1).append("(); }");
            classes.append("private static final class C").append(k).append(" { }");
            fields.append("private int f").append(k).append(", g").append(k).append(";");
        }
        member(11, chain.toString());
        member(11, classes.toString());
        member(11, fields.toString());
    }

    private static void statements() {
        statement(2, "Object o = new Object() { };");
        statement(4, "System.gc();");
        statement(4, "n = Integer.parseInt(\"1\");");
        statement(4, "n = Math.addExact(n, 1);");
        statement(5, "FIXED[0] = 2;");
        statement(5, "FIXED[0]++;");
        statement(6, "Object o = a; int[] c = (int[]) o;");
        statement(7, "n = 9 / n;");
        statement(7, "n %= n;");
        statement(7, "n = 9 % 0;");
        statement(9, "for (int k = 0; k < n; ) { k++; }");
        statement(9, "for (int k = 0; k < n; k--) { b = true; }");
        statement(9, "for (int k = 0; b; k++) { b = false; }");
        statement(9, "for (int k = 0; b || k < n; k++) { b = true; }");
        statement(9, "for (int k = 0; k < n; k++) { k = 0; }");
        statement(9, "for (int k = 0; k < n; k++) { k--; }");
        statement(9, "for (int k = 0; k < n; k++) { k -= 1; }");
        statement(10, "while (b) { b = false; }");
        statement(10, "do { b = false; } while (b);");
        statement(10, "if (b) { throw new IllegalStateException(); }");
        statement(10, "try { n = may(1); } catch (IllegalStateException e) { n = 2; }");
        statement(10, "assert b;");
        statement(10, "synchronized (this) { n = 1; }");
        statement(10, "Runnable r = () -> { };");
        statement(10, "Runnable r = this::toString;");
        statement(10, "String s = \"a\" + n;");
        statement(10, "String s = \"a\"; s += \"b\";");
        statement(10, "boolean same = \"a\" == \"b\";");
        statement(12, "int[] c = new int[n];");
        statement(12, "UnlikeGate other = new UnlikeGate();");
    }
}
