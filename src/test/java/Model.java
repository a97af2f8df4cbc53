import java.math.BigInteger;
import java.nio.charset.StandardCharsets;
import java.util.ArrayDeque;
import java.util.ArrayList;
import java.util.Arrays;
import java.util.Deque;
import java.util.HashMap;
import java.util.HashSet;
import java.util.List;
import java.util.Map;
import java.util.Set;
import java.util.regex.Matcher;
import java.util.regex.Pattern;

/** The document once more, slow and plain, to be compared with: lists, searches, no tricks. */
final class Model {
    private static final int BAD = -1, NO = -2, FULL = -3, NONE = -4;
    private static final Pattern ITEM = Pattern.compile("t(\\d{1,2}),(\\d{1,2});|p(\\d{1,5});|l(\\d{1,2});|g(\\d{1,2});");

    /** Who is in, who passed last (null: nobody), in what he differed (null: he passed behind nobody). */
    private record Gate(Set<Integer> in, Integer last, Set<Integer> differed) { }

    private static final class Telling {
        final List<Integer> values = new ArrayList<>();
        final List<Boolean> borrowed = new ArrayList<>();
        final List<List<Integer>> persons = new ArrayList<>();
        int law = 0;
        int guard = 31;
        int fault = NONE;
    }

    private String text = "";
    private Telling told = read("t2,0;t2,1;p00;p01;p11;");
    private Gate gate = new Gate(Set.of(), null, null);
    private final Deque<Gate> earlier = new ArrayDeque<>();
    private final Deque<Gate> kept = new ArrayDeque<>();
    private final List<Integer> row = new ArrayList<>();

    private static Telling read(String text) {
        Telling telling = new Telling();
        int at = 0;
        while (at < text.length()) {
            Matcher item = ITEM.matcher(text).region(at, text.length());
            if (!item.lookingAt() || !take(telling, item)) {
                telling.fault = at;
                return telling;
            }
            at = item.end();
        }
        return telling;
    }

    private static boolean take(Telling telling, Matcher item) {
        if (item.group(1) != null) {
            int n = Integer.parseInt(item.group(1));
            int b = Integer.parseInt(item.group(2));
            telling.values.add(n);
            telling.borrowed.add(b == 1);
            long can = telling.borrowed.stream().filter(x -> x).count();
            return n >= 1 && n <= 4 && b <= 1 && can <= 2 && telling.values.size() <= 5 && telling.persons.isEmpty();
        }
        if (item.group(3) != null) {
            List<Integer> person = new ArrayList<>();
            for (char c : item.group(3).toCharArray()) {
                person.add(c - '0');
            }
            telling.persons.add(person);
            if (person.size() != telling.values.size() || telling.persons.size() > 9) {
                return false;
            }
            for (int t = 0; t < person.size(); t++) {
                if (person.get(t) >= telling.values.get(t)) {
                    return false;
                }
            }
            return true;
        }
        if (item.group(4) != null) {
            telling.law = Integer.parseInt(item.group(4));
            return telling.law <= 3;
        }
        telling.guard = Integer.parseInt(item.group(5));
        return telling.guard <= 31;
    }

    private int things() {
        return told.values.size();
    }

    private int persons() {
        return told.persons.size();
    }

    private boolean isPerson(int i) {
        return 0 <= i && i < persons();
    }

    private boolean sees(int t) {
        return (told.guard >> t) % 2 == 1;
    }

    private int code(List<Integer> look) {
        int code = 0;
        for (int t = 0; t < things(); t++) {
            code = code * told.values.get(t) + look.get(t);
        }
        return code;
    }

    private Set<Integer> differing(List<Integer> a, List<Integer> b, boolean seenOnly) {
        Set<Integer> set = new HashSet<>();
        for (int t = 0; t < things(); t++) {
            if (!a.get(t).equals(b.get(t)) && (!seenOnly || sees(t))) {
                set.add(t);
            }
        }
        return set;
    }

    private static int bits(Set<Integer> set) {
        int sum = 0;
        for (int t : set) {
            sum += 1 << t;
        }
        return sum;
    }

    private boolean passes(Set<Integer> differ, Set<Integer> before) {
        if (told.law == 0) {
            return differ.size() == 1;
        }
        if (told.law == 1) {
            return differ.size() == 2;
        }
        if (told.law == 2) {
            return differ.size() == 1 && !differ.equals(before);
        }
        return differ.size() < 2;
    }

    private int judged(List<List<Integer>> looks) {
        Set<Integer> before = null;
        for (int k = 1; k < looks.size(); k++) {
            Set<Integer> differ = differing(looks.get(k - 1), looks.get(k), true);
            if (!passes(differ, before)) {
                return k;
            }
            before = differ;
        }
        return NONE;
    }

    int write(int n, long v) {
        if (n < 1 || n > 8) {
            return BAD;
        }
        if (text.length() + n > 300) {
            return FULL;
        }
        byte[] all = new byte[8];
        for (int k = 7; k >= 0; k--) {
            all[k] = (byte) v;
            v >>= 8;
        }
        text += new String(all, 8 - n, n, StandardCharsets.ISO_8859_1);
        return text.length();
    }

    int wipe() {
        int was = text.length();
        text = "";
        return was;
    }

    int fault() {
        return read(text).fault;
    }

    int lay() {
        Telling telling = read(text);
        if (telling.fault != NONE || telling.values.isEmpty() || telling.persons.isEmpty()) {
            return NO;
        }
        told = telling;
        gate = new Gate(Set.of(), null, null);
        earlier.clear();
        kept.clear();
        row.clear();
        return persons();
    }

    int person(int i, int t) {
        if (!isPerson(i) || t < -2 || t >= things()) {
            return BAD;
        }
        if (t == -2) {
            return gate.in.contains(i) ? 1 : 0;
        }
        return t == -1 ? code(told.persons.get(i)) : told.persons.get(i).get(t);
    }

    int differ(int i, int j, boolean seen) {
        if (!isPerson(i) || !isPerson(j)) {
            return BAD;
        }
        return bits(differing(told.persons.get(i), told.persons.get(j), seen));
    }

    int may(int i) {
        if (!isPerson(i)) {
            return BAD;
        }
        if (gate.last == null) {
            return 1;
        }
        return passes(differing(told.persons.get(gate.last), told.persons.get(i), true), gate.differed) ? 1 : 0;
    }

    int goIn(int i) {
        return go(i, true);
    }

    int goOut(int i) {
        return go(i, false);
    }

    private int go(int i, boolean in) {
        if (!isPerson(i)) {
            return BAD;
        }
        if (gate.in.contains(i) == in || may(i) == 0) {
            return NO;
        }
        earlier.push(gate);
        if (earlier.size() > 8) {
            earlier.removeLast();
        }
        Set<Integer> now = new HashSet<>(gate.in);
        if (in) {
            now.add(i);
        } else {
            now.remove(i);
        }
        Set<Integer> differed = gate.last == null ? null
            : differing(told.persons.get(gate.last), told.persons.get(i), true);
        gate = new Gate(now, i, differed);
        return now.size();
    }

    int undo() {
        if (earlier.isEmpty()) {
            return NO;
        }
        gate = earlier.pop();
        return earlier.size();
    }

    int last() {
        return gate.last == null ? NONE : gate.last;
    }

    int add(int i) {
        if (!isPerson(i)) {
            return BAD;
        }
        if (row.size() == 16) {
            return FULL;
        }
        row.add(i);
        return row.size();
    }

    int noRow() {
        int was = row.size();
        row.clear();
        return was;
    }

    private List<List<Integer>> looks(List<Integer> people) {
        List<List<Integer>> looks = new ArrayList<>();
        for (int i : people) {
            looks.add(told.persons.get(i));
        }
        return looks;
    }

    int judge() {
        return judged(looks(row));
    }

    int longest(int set, int i) {
        if (set < 0 || set >= 1 << persons() || i < -1) {
            return BAD;
        }
        List<Integer> best = new ArrayList<>();
        extend(set, new ArrayList<>(), best);
        if (i == -1) {
            return best.size();
        }
        return i < best.size() ? best.get(i) : NONE;
    }

    private void extend(int set, List<Integer> so, List<Integer> best) {
        if (so.size() > best.size()) {
            best.clear();
            best.addAll(so);
        }
        for (int p = 0; p < persons() && best.size() < Integer.bitCount(set); p++) {
            if ((set >> p) % 2 == 1 && !so.contains(p)) {
                so.add(p);
                if (judged(looks(so)) == NONE) {
                    extend(set, so, best);
                }
                so.remove(so.size() - 1);
            }
        }
    }

    int proof() {
        int odd = 0;
        for (List<Integer> person : told.persons) {
            int sum = 0;
            for (int value : person) {
                sum += value;
            }
            odd += sum % 2;
        }
        boolean apart = odd >= persons() - odd + 2 || persons() - odd >= odd + 2;
        for (int t = 0; t < things(); t++) {
            apart = apart && sees(t) && told.values.get(t) <= 2;
        }
        return apart && told.law == 0 ? 1 : 0;
    }

    private long rows(List<Integer> from, Set<Integer> before, int j, int n, Map<String, Long> known) {
        String key = from + " " + before + " " + n;
        Long is = known.get(key);
        if (is != null) {
            return is;
        }
        long sum = 0;
        for (int p = 0; p < persons(); p++) {
            Set<Integer> differ = differing(from, told.persons.get(p), true);
            if (passes(differ, before) && (n > 0 || p == j)) {
                sum += n == 0 ? 1 : rows(told.persons.get(p), differ, j, n - 1, known);
            }
        }
        known.put(key, sum);
        return sum;
    }

    long between(int i, int j, int n) {
        if (!isPerson(i) || !isPerson(j) || n < 0 || n > 12) {
            return BAD;
        }
        return rows(told.persons.get(i), null, j, n, new HashMap<>());
    }

    int nearest(int i, int j) {
        if (!isPerson(i) || !isPerson(j)) {
            return BAD;
        }
        for (int n = 0; n <= 12; n++) {
            if (between(i, j, n) > 0) {
                return n;
            }
        }
        return NONE;
    }

    private List<List<Integer>> allLooks() {
        List<List<Integer>> all = new ArrayList<>();
        all.add(new ArrayList<>());
        for (int n : told.values) {
            List<List<Integer>> more = new ArrayList<>();
            for (List<Integer> look : all) {
                for (int v = 0; v < n; v++) {
                    List<Integer> longer = new ArrayList<>(look);
                    longer.add(v);
                    more.add(longer);
                }
            }
            all = more;
        }
        return all;
    }

    private record At(List<Integer> look, Set<Integer> before) { }

    /** The fewest passes, one at least, without any bound on them; NONE. */
    private int passesTo(List<Integer> from, Set<Integer> before, List<Integer> to, List<List<Integer>> all) {
        Set<At> seen = new HashSet<>();
        List<At> now = new ArrayList<>(List.of(new At(from, told.law == 2 ? before : null)));
        for (int passes = 1; !now.isEmpty(); passes++) {
            List<At> next = new ArrayList<>();
            for (At at : now) {
                if (passes(differing(at.look, to, true), at.before)) {
                    return passes;
                }
                for (List<Integer> look : all) {
                    Set<Integer> differ = differing(at.look, look, true);
                    At behind = new At(look, told.law == 2 ? differ : null);
                    if (passes(differ, at.before) && seen.add(behind)) {
                        next.add(behind);
                    }
                }
            }
            now = next;
        }
        return NONE;
    }

    int steps(int i, int j, int what) {
        if (!isPerson(i) || !isPerson(j) || what < 0 || what > 1) {
            return BAD;
        }
        List<Integer> from = told.persons.get(i);
        List<Integer> to = told.persons.get(j);
        List<List<Integer>> all = allLooks();
        int passes = passesTo(from, null, to, all);
        if (passes == NONE || what == 0) {
            return passes == NONE ? NONE : passes - 1;
        }
        for (List<Integer> look : all) {
            Set<Integer> differ = differing(from, look, true);
            if (passes > 1 && passes(differ, null) && passesTo(look, differ, to, all) == passes - 1) {
                return code(look);
            }
        }
        return NONE;
    }

    private List<List<Integer>> lentLooks(int i) {
        List<List<Integer>> can = new ArrayList<>();
        for (List<Integer> look : allLooks()) {
            boolean fits = true;
            for (int t : differing(look, told.persons.get(i), false)) {
                fits = fits && told.borrowed.get(t);
            }
            if (fits) {
                can.add(look);
            }
        }
        return can;
    }

    /** How many others, then the CODES; null: none. */
    private List<Integer> bestLent(int k, List<Integer> ahead, Map<String, List<Integer>> known,
            List<List<List<Integer>>> can) {
        if (k == row.size()) {
            return List.of(0);
        }
        String key = k + " " + ahead;
        if (known.containsKey(key)) {
            return known.get(key);
        }
        List<Integer> best = null;
        for (List<Integer> look : can.get(k)) {
            if (ahead == null || passes(differing(ahead, look, true), null)) {
                List<Integer> rest = bestLent(k + 1, look, known, can);
                if (rest != null) {
                    List<Integer> all = new ArrayList<>();
                    all.add(rest.get(0) + differing(look, told.persons.get(row.get(k)), false).size());
                    all.add(code(look));
                    all.addAll(rest.subList(1, rest.size()));
                    best = best == null || isLess(all, best) ? all : best;
                }
            }
        }
        known.put(key, best);
        return best;
    }

    private static boolean isLess(List<Integer> a, List<Integer> b) {
        return Arrays.compare(a.stream().mapToInt(x -> x).toArray(), b.stream().mapToInt(x -> x).toArray()) < 0;
    }

    int lent(int i) {
        if (i < -1 || i >= row.size()) {
            return BAD;
        }
        List<List<List<Integer>>> can = new ArrayList<>();
        for (int p : row) {
            can.add(lentLooks(p));
        }
        List<Integer> best = bestLent(0, null, new HashMap<>(), can);
        return best == null ? NONE : best.get(i + 1);
    }

    int mustSee() {
        int guardWas = told.guard;
        told.guard = 31;
        String due = whoPasses();
        int best = -1;
        for (int n = 0; n <= things() && best < 0; n++) {
            for (int set = 0; set < 1 << things() && best < 0; set++) {
                told.guard = set;
                if (Integer.bitCount(set) == n && whoPasses().equals(due)) {
                    best = set;
                }
            }
        }
        told.guard = guardWas;
        return best;
    }

    private String whoPasses() {
        StringBuilder all = new StringBuilder();
        for (List<Integer> a : told.persons) {
            for (List<Integer> b : told.persons) {
                all.append(passes(differing(a, b, true), null) ? '1' : '0');
            }
        }
        return all.toString();
    }

    int crowd(int z, int n, int what) {
        if (z < 0 || z > 9999 || n < 1 || n > 60 || what < 0 || what > 1) {
            return BAD;
        }
        List<Integer> passed = new ArrayList<>();
        for (int k = 0; k < n; k++) {
            BigInteger x = BigInteger.valueOf(7919).multiply(BigInteger.valueOf(z))
                .add(BigInteger.valueOf(6151).multiply(BigInteger.valueOf(k))).add(BigInteger.ONE);
            BigInteger drawn = x.multiply(x).mod(BigInteger.valueOf(65521)).mod(BigInteger.valueOf(persons()));
            passed.add(drawn.intValue());
            if (judged(looks(passed)) != NONE) {
                passed.remove(passed.size() - 1);
            }
        }
        return what == 0 ? passed.size() : passed.get(passed.size() - 1);
    }

    int keep() {
        if (kept.size() == 2) {
            return FULL;
        }
        kept.push(gate);
        return kept.size();
    }

    int back() {
        if (kept.isEmpty()) {
            return NO;
        }
        gate = kept.pop();
        earlier.clear();
        return kept.size();
    }

    int count(int what) {
        int seen = 0;
        for (int t = 0; t < things(); t++) {
            seen += sees(t) ? 1 << t : 0;
        }
        int[] all = {persons(), things(), gate.in.size(), row.size(), earlier.size(), kept.size(), text.length(),
            told.law, seen};
        return what < 0 || what >= all.length ? BAD : all[what];
    }
}
