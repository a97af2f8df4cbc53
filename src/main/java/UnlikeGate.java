import java.util.Arrays;

/** A gate that lets in whoever is unlike the one before by the LAW; the document says what each call answers. */
public final class UnlikeGate {
    public static final int BAD = -1, NO = -2, FULL = -3, NONE = -4;

    private static final int MOST_BYTES = 300;
    private static final int MOST_THINGS = 5;
    private static final int MOST_VALUES = 4;
    private static final int MOST_BORROWED = 2;
    private static final int MOST_HATS = 16;
    private static final int MOST_PERSONS = 9;
    private static final int MOST_IN_ROW = 16;
    private static final int MOST_UNDONE = 8;
    private static final int MOST_KEPT = 2;
    private static final int MOST_BETWEEN = 12;
    private static final int MOST_CROWD = 60;
    private static final int MOST_DRAW = 9999;

    private static final int ONE = 0;
    private static final int TWO = 1;
    private static final int TURNS = 2;
    private static final int ONE_OR_NONE = 3;

    private static final int NOBODY = -1;
    private static final int NO_NUMBER = -1;
    private static final int ALL_THINGS = 31;
    /** By TURNS each THING can be barred for the next one; bar 0 is that none is. */
    private static final int BARS = MOST_THINGS + 1;

    private static final String AT_FIRST = "t2,0;t2,1;p00;p01;p11;";

    private final Text text = new Text();
    private final Gate gate = new Gate();
    private final Row row = new Row();
    private final Line line = new Line();
    private final Walks walks = new Walks();
    private final LongestRows longestRows = new LongestRows();
    private final Strangers strangers = new Strangers();
    private final Lending lending = new Lending();
    private Told told = new Told();
    /** A TEXT is read into this one, so that one with a FAULT leaves what is laid as it was. */
    private Told spare = new Told();

    public UnlikeGate() {
        for (int k = 0; k < AT_FIRST.length(); k++) {
            text.append(1, AT_FIRST.charAt(k));
        }
        text.readInto(told);
        text.clear();
    }

    // ---- gates

    public int write(int n, long v) {
        if (n < 1 || n > 8) {
            return BAD;
        }
        return text.hasRoomFor(n) ? text.append(n, v) : FULL;
    }

    public int wipe() {
        int was = text.length;
        text.clear();
        return was;
    }

    public int fault() {
        return text.readInto(spare);
    }

    public int lay() {
        // A PERSON has a VALUE at least, so that there is a THING too.
        if (text.readInto(spare) != NONE || spare.persons < 1) {
            return NO;
        }
        Told before = told;
        told = spare;
        spare = before;
        gate.clear();
        row.size = 0;
        longestRows.forget();
        return told.persons;
    }

    public int person(int i, int t) {
        if (!told.hasPerson(i)) {
            return BAD;
        }
        if (t == -2) {
            return gate.holds(i) ? 1 : 0;
        }
        if (t == -1) {
            return told.code(told.look(i));
        }
        return told.hasThing(t) ? valueOf(told.look(i), t) : BAD;
    }

    public int differ(int i, int j, boolean seen) {
        if (!told.hasPerson(i) || !told.hasPerson(j)) {
            return BAD;
        }
        return seen ? told.seenUnlike(i, j) : unlike(told.look(i), told.look(j));
    }

    // ---- in and out

    public int may(int i) {
        if (!told.hasPerson(i)) {
            return BAD;
        }
        return gate.line.lets(told, i) ? 1 : 0;
    }

    public int goIn(int i) {
        if (!told.hasPerson(i)) {
            return BAD;
        }
        return gate.holds(i) ? NO : passGate(i);
    }

    public int goOut(int i) {
        if (!told.hasPerson(i)) {
            return BAD;
        }
        return gate.holds(i) ? passGate(i) : NO;
    }

    private int passGate(int i) {
        if (!gate.line.lets(told, i)) {
            return NO;
        }
        gate.pass(told, i);
        return gate.howManyIn();
    }

    public int undo() {
        return gate.takeBack() ? gate.undoable : NO;
    }

    public int last() {
        return gate.line.latest == NOBODY ? NONE : gate.line.latest;
    }

    // ---- rows

    public int add(int i) {
        if (!told.hasPerson(i)) {
            return BAD;
        }
        return row.append(i) ? row.size : FULL;
    }

    public int noRow() {
        int was = row.size;
        row.size = 0;
        return was;
    }

    public int judge() {
        line.clear();
        for (int k = 0; k < row.size; k++) {
            int i = row.at(k);
            if (!line.lets(told, i)) {
                return k;
            }
            line.take(told, i);
        }
        return NONE;
    }

    public int longest(int set, int i) {
        if (set < 0 || set >= 1 << told.persons || i < -1) {
            return BAD;
        }
        int most = longestRows.most(told, set);
        if (i == -1) {
            return most;
        }
        return i < most ? longestRows.personAt(told, line, set, most, i) : NONE;
    }

    public int proof() {
        boolean holds = told.law == ONE && told.sees() == told.allThings() && told.thingsOfMoreThan(2) == 0;
        return holds && Math.abs(told.oddMinusEven()) >= 2 ? 1 : 0;
    }

    // ---- between

    public long between(int i, int j, int n) {
        if (!told.hasPerson(i) || !told.hasPerson(j) || n < 0 || n > MOST_BETWEEN) {
            return BAD;
        }
        walks.startAt(i);
        for (int passes = 0; passes <= n; passes++) {
            walks.goOn(told);
        }
        return walks.waysTo(j);
    }

    public int nearest(int i, int j) {
        if (!told.hasPerson(i) || !told.hasPerson(j)) {
            return BAD;
        }
        walks.startAt(i);
        for (int n = 0; n <= MOST_BETWEEN; n++) {
            walks.goOn(told);
            if (walks.waysTo(j) > 0) {
                return n;
            }
        }
        return NONE;
    }

    public int steps(int i, int j, int what) {
        if (!told.hasPerson(i) || !told.hasPerson(j) || what < 0 || what > 1) {
            return BAD;
        }
        int fewest = strangers.fewest(told, told.seenUnlike(i, j));
        if (what == 0 || fewest == NONE) {
            return fewest;
        }
        return fewest == 0 ? NONE : strangers.leastFirst(told, told.look(i), told.look(j), fewest);
    }

    public int lent(int i) {
        if (i < -1 || i >= row.size) {
            return BAD;
        }
        return i == -1 ? lending.fewest(told, row) : lending.codeAt(told, row, i);
    }

    public int mustSee() {
        int best = told.allThings();
        for (int set = told.allThings(); set >= 0; set--) {
            // Downwards, so that of sets of as many the lowest stays.
            if (Integer.bitCount(set) <= Integer.bitCount(best) && told.isSameGuard(set)) {
                best = set;
            }
        }
        return best;
    }

    public int crowd(int z, int n, int what) {
        if (z < 0 || z > MOST_DRAW || n < 1 || n > MOST_CROWD || what < 0 || what > 1) {
            return BAD;
        }
        line.clear();
        int passed = 0;
        for (int k = 0; k < n; k++) {
            int i = told.drawn(z, k);
            if (line.lets(told, i)) {
                line.take(told, i);
                passed++;
            }
        }
        return what == 0 ? passed : line.latest;
    }

    public int keep() {
        return gate.store() ? gate.kept : FULL;
    }

    public int back() {
        return gate.fetch() ? gate.kept : NO;
    }

    public int count(int what) {
        switch (what) {
            case 0:
                return told.persons;
            case 1:
                return told.things;
            case 2:
                return gate.howManyIn();
            case 3:
                return row.size;
            case 4:
                return gate.undoable;
            case 5:
                return gate.kept;
            case 6:
                return text.length;
            case 7:
                return told.law;
            case 8:
                return told.sees();
            default:
                return BAD;
        }
    }

    // ---- looks: all VALUES of one in an int, low bits of THING t at bit t, high bits at bit t + 5,
    // so that two of them are compared in all THINGS at once

    private static int unlike(int look, int other) {
        int bits = look ^ other;
        return (bits | bits >>> MOST_THINGS) & ALL_THINGS;
    }

    private static int valueOf(int look, int t) {
        return look >>> t & 1 | (look >>> (t + MOST_THINGS) & 1) << 1;
    }

    private static int lookWith(int t, int value) {
        return (value & 1) << t | (value >>> 1 & 1) << (t + MOST_THINGS);
    }

    /** THE TEXT, and how its ITEMS are read. */
    private static final class Text {
        private final byte[] bytes = new byte[MOST_BYTES];
        private int length;

        boolean hasRoomFor(int n) {
            return n <= MOST_BYTES - length;
        }

        int append(int n, long v) {
            for (int k = n - 1; k >= 0 && length < MOST_BYTES; k--) {
                bytes[length] = (byte) (v >>> (8 * k));
                length++;
            }
            return length;
        }

        void clear() {
            length = 0;
        }

        /** The place of the FAULT, or NONE; what is told then is whole. */
        int readInto(Told told) {
            told.clear();
            int at = 0;
            for (int items = 0; items < MOST_BYTES && at < length; items++) {
                int end = find(';', at, length);
                if (end == length || !takeItem(told, at, end)) {
                    return at;
                }
                at = end + 1;
            }
            return NONE;
        }

        private boolean takeItem(Told told, int at, int end) {
            int letter = bytes[at];
            int from = at + 1;
            switch (letter) {
                case 't':
                    int comma = find(',', from, end);
                    return told.takeThing(number(from, comma), number(comma + 1, end));
                case 'p':
                    return told.takePerson(bytes, from, end);
                case 'l':
                    return told.takeLaw(number(from, end));
                case 'g':
                    return told.takeGuard(number(from, end));
                default:
                    return false;
            }
        }

        private int find(int sign, int from, int to) {
            for (int k = from; k < to; k++) {
                if (bytes[k] == sign) {
                    return k;
                }
            }
            return to;
        }

        private int number(int from, int to) {
            if (to - from < 1 || to - from > 2) {
                return NO_NUMBER;
            }
            int sum = 0;
            for (int k = from; k < to; k++) {
                if (bytes[k] < '0' || bytes[k] > '9') {
                    return NO_NUMBER;
                }
                sum = 10 * sum + bytes[k] - '0';
            }
            return sum;
        }
    }

    /** What a TEXT tells: THINGS, PERSONS, the LAW, the GUARD. */
    private static final class Told {
        private final int[] values = new int[MOST_THINGS];
        private final int[] looks = new int[MOST_PERSONS];
        /** All that can be BORROWED together, as looks, in the order of their CODES. */
        private final int[] hats = new int[MOST_HATS];
        private int things;
        private int persons;
        private int borrowed;
        private int hatCount;
        private int law;
        private int guard;

        void clear() {
            things = 0;
            persons = 0;
            borrowed = 0;
            hats[0] = 0;
            hatCount = 1;
            law = ONE;
            guard = ALL_THINGS;
        }

        boolean takeThing(int n, int b) {
            if (n < 1 || n > MOST_VALUES || b < 0 || b > 1 || things >= MOST_THINGS || persons > 0) {
                return false;
            }
            if (b == 1 && !takeBorrowed(n)) {
                return false;
            }
            values[things] = n;
            things++;
            return true;
        }

        private boolean takeBorrowed(int n) {
            if (Integer.bitCount(borrowed) >= MOST_BORROWED || hatCount * n > MOST_HATS) {
                return false;
            }
            borrowed |= 1 << things;
            // From the last one down, as each makes room for n at its n-fold place.
            for (int k = hatCount - 1; k >= 0; k--) {
                int hat = hats[k];
                for (int v = 0; v < n; v++) {
                    hats[k * n + v] = hat | lookWith(things, v);
                }
            }
            hatCount *= n;
            return true;
        }

        boolean takePerson(byte[] bytes, int from, int to) {
            if (things < 1 || to - from != things || persons >= MOST_PERSONS) {
                return false;
            }
            int look = 0;
            for (int t = 0; t < things; t++) {
                int value = bytes[from + t] - '0';
                if (value < 0 || value >= values[t]) {
                    return false;
                }
                look |= lookWith(t, value);
            }
            looks[persons] = look;
            persons++;
            return true;
        }

        boolean takeLaw(int k) {
            if (k < ONE || k > ONE_OR_NONE) {
                return false;
            }
            law = k;
            return true;
        }

        boolean takeGuard(int g) {
            if (g < 0 || g > ALL_THINGS) {
                return false;
            }
            guard = g;
            return true;
        }

        boolean hasPerson(int i) {
            return i >= 0 && i < persons;
        }

        boolean hasThing(int t) {
            return t >= 0 && t < things;
        }

        int allThings() {
            return (1 << things) - 1;
        }

        int sees() {
            return guard & (1 << things) - 1;
        }

        int thingsOfMoreThan(int n) {
            int set = 0;
            for (int t = 0; t < things; t++) {
                if (values[t] > n) {
                    set |= 1 << t;
                }
            }
            return set;
        }

        int look(int i) {
            return i >= 0 && i < persons ? looks[i] : 0;
        }

        int seenUnlike(int i, int j) {
            return unlike(look(i), look(j)) & sees();
        }

        int code(int look) {
            int sum = 0;
            for (int t = 0; t < things; t++) {
                sum = sum * values[t] + valueOf(look, t);
            }
            return sum;
        }

        int codes() {
            int product = 1;
            for (int t = 0; t < things; t++) {
                product *= values[t];
            }
            return product;
        }

        int lookOfCode(int code) {
            int look = 0;
            int rest = code;
            for (int t = things - 1; t >= 0; t--) {
                int base = values[t];
                if (base > 0) {
                    look |= lookWith(t, rest % base);
                    rest /= base;
                }
            }
            return look;
        }

        int lookWithHat(int look, int hat) {
            int kept = look & ~(borrowed | borrowed << MOST_THINGS);
            return hat >= 0 && hat < hatCount ? kept | hats[hat] : look;
        }

        /** Whether one may PASS who differs in these THINGS; before: those in which the one ahead DIFFERED. */
        boolean lets(int unlike, int before) {
            int n = Integer.bitCount(unlike);
            switch (law) {
                case TWO:
                    return n == 2;
                case TURNS:
                    return n == 1 && unlike != before;
                case ONE_OR_NONE:
                    return n <= 1;
                default:
                    return n == 1;
            }
        }

        /** As bars are: how one who DIFFERED in these THINGS binds the next one. */
        int barBehind(int unlike) {
            if (law == TURNS) {
                for (int t = 0; t < things; t++) {
                    if (unlike == 1 << t) {
                        return t + 1;
                    }
                }
            }
            return 0;
        }

        int bars() {
            return law == TURNS ? things + 1 : 1;
        }

        int oddMinusEven() {
            int sum = 0;
            for (int i = 0; i < persons; i++) {
                // The low bits alone make a sum odd.
                sum += Integer.bitCount(looks[i] & ALL_THINGS) % 2 == 1 ? 1 : -1;
            }
            return sum;
        }

        /** Whether by seeing this set of THINGS the same two may PASS as by seeing all. */
        boolean isSameGuard(int set) {
            for (int i = 0; i < persons; i++) {
                for (int j = 0; j < i; j++) {
                    int all = unlike(looks[i], looks[j]);
                    if (lets(all, 0) != lets(all & set, 0)) {
                        return false;
                    }
                }
            }
            return true;
        }

        int drawn(int z, int k) {
            long x = 7919L * z + 6151L * k + 1;
            return persons < 1 ? 0 : (int) (x * x % 65521 % persons);
        }
    }

    private static int barredBy(int bar) {
        return bar == 0 ? 0 : 1 << (bar - 1);
    }

    /** Who PASSED last and in what he DIFFERED: all that says who may PASS next. */
    private static final class Line {
        private int latest = NOBODY;
        private int differed;

        void clear() {
            latest = NOBODY;
            differed = 0;
        }

        int unlikeLatest(Told told, int i) {
            return latest == NOBODY ? 0 : told.seenUnlike(latest, i);
        }

        boolean lets(Told told, int i) {
            return latest == NOBODY || told.lets(unlikeLatest(told, i), differed);
        }

        void take(Told told, int i) {
            differed = unlikeLatest(told, i);
            latest = i;
        }
    }

    /** THE GATE, what of it can be UNDONE, what is KEPT. */
    private static final class Gate {
        private final Line line = new Line();
        private final int[] earlier = new int[MOST_UNDONE];
        private final int[] stored = new int[MOST_KEPT];
        private int inside;
        private int undoable;
        private int kept;

        void clear() {
            line.clear();
            inside = 0;
            undoable = 0;
            kept = 0;
        }

        boolean holds(int i) {
            return (inside >>> i & 1) == 1;
        }

        int howManyIn() {
            return Integer.bitCount(inside);
        }

        void pass(Told told, int i) {
            remember();
            line.take(told, i);
            inside ^= 1 << i;
        }

        private void remember() {
            if (undoable == MOST_UNDONE) {
                System.arraycopy(earlier, 1, earlier, 0, MOST_UNDONE - 1);
                undoable--;
            }
            earlier[undoable] = packed();
            undoable++;
        }

        boolean takeBack() {
            if (undoable < 1) {
                return false;
            }
            undoable--;
            unpack(earlier[undoable]);
            return true;
        }

        boolean store() {
            if (kept >= MOST_KEPT) {
                return false;
            }
            stored[kept] = packed();
            kept++;
            return true;
        }

        boolean fetch() {
            if (kept < 1) {
                return false;
            }
            kept--;
            unpack(stored[kept]);
            undoable = 0;
            return true;
        }

        // The whole gate is one int, so that many are kept without an object each.
        private int packed() {
            return inside << 10 | (line.latest + 1) << 5 | line.differed;
        }

        private void unpack(int all) {
            inside = all >>> 10;
            line.latest = (all >>> 5 & 31) - 1;
            line.differed = all & ALL_THINGS;
        }
    }

    /** THE ROW. */
    private static final class Row {
        private final int[] people = new int[MOST_IN_ROW];
        private int size;

        boolean append(int i) {
            if (size >= MOST_IN_ROW) {
                return false;
            }
            people[size] = i;
            size++;
            return true;
        }

        int at(int k) {
            return k >= 0 && k < size ? people[k] : 0;
        }
    }

    /** How many rows there are of so many, by whom they end and what is barred behind him. */
    private static final class Walks {
        private long[] ways = new long[MOST_PERSONS * BARS];
        private long[] next = new long[MOST_PERSONS * BARS];

        void startAt(int i) {
            Arrays.fill(ways, 0L);
            ways[i * BARS] = 1;
        }

        void goOn(Told told) {
            Arrays.fill(next, 0L);
            for (int i = 0; i < told.persons; i++) {
                for (int bar = 0; bar < told.bars(); bar++) {
                    if (ways[i * BARS + bar] > 0) {
                        spread(told, i, bar);
                    }
                }
            }
            long[] before = ways;
            ways = next;
            next = before;
        }

        private void spread(Told told, int i, int bar) {
            for (int j = 0; j < told.persons; j++) {
                int unlike = told.seenUnlike(i, j);
                if (told.lets(unlike, barredBy(bar))) {
                    next[j * BARS + told.barBehind(unlike)] += ways[i * BARS + bar];
                }
            }
        }

        long waysTo(int j) {
            long sum = 0;
            for (int bar = 0; bar < BARS; bar++) {
                sum += ways[j * BARS + bar];
            }
            return sum;
        }
    }

    /** The longest rows by whom they start: made once for all sets, as a shorter row's set is the lower number. */
    private static final class LongestRows {
        private static final int FIGURE = 4;

        /** By set and first one: how long, a figure of four bits for each bar (that binds the second one). */
        private final int[] lengths = new int[MOST_PERSONS << MOST_PERSONS];
        private boolean known;

        void forget() {
            known = false;
        }

        int most(Told told, int set) {
            if (!known) {
                fill(told);
            }
            int most = 0;
            for (int i = 0; i < told.persons; i++) {
                most = Math.max(most, length(set, i, 0));
            }
            return most;
        }

        private int length(int set, int i, int bar) {
            if ((set >>> i & 1) == 0) {
                return 0;
            }
            return lengths[set * MOST_PERSONS + i] >>> (FIGURE * bar) & 15;
        }

        private void fill(Told told) {
            for (int set = 1; set < 1 << told.persons; set++) {
                for (int i = 0; i < told.persons; i++) {
                    int all = 0;
                    for (int bar = 0; bar < told.bars(); bar++) {
                        all |= lengthFrom(told, set, i, bar) << (FIGURE * bar);
                    }
                    lengths[set * MOST_PERSONS + i] = all;
                }
            }
            known = true;
        }

        private int lengthFrom(Told told, int set, int i, int bar) {
            if ((set >>> i & 1) == 0) {
                return 0;
            }
            int rest = set & ~(1 << i);
            int most = 0;
            for (int j = 0; j < told.persons; j++) {
                int unlike = told.seenUnlike(i, j);
                if (told.lets(unlike, barredBy(bar))) {
                    most = Math.max(most, length(rest, j, told.barBehind(unlike)));
                }
            }
            return most + 1;
        }

        /** The i-th of the first of the rows of most. */
        int personAt(Told told, Line line, int set, int most, int i) {
            int rest = set;
            line.clear();
            for (int k = 0; k <= i && k < most; k++) {
                int next = firstWith(told, line, rest, most - k);
                if (next == NOBODY) {
                    return NONE;
                }
                line.take(told, next);
                rest &= ~(1 << next);
            }
            return line.latest;
        }

        private int firstWith(Told told, Line line, int rest, int needed) {
            for (int i = 0; i < told.persons; i++) {
                int bar = told.barBehind(line.unlikeLatest(told, i));
                if (line.lets(told, i) && length(rest, i, bar) == needed) {
                    return i;
                }
            }
            return NOBODY;
        }
    }

    /**
     * STEPS. Of a stranger it counts only in which THINGS he is unlike the second one: one set of 32 that there can be,
     * so that the 32 bits of an int say from which sets one can get there.
     */
    private static final class Strangers {
        /** By THING: the sets that hold it, a bit each. */
        private static final int[] HOLDING = {0xAAAAAAAA, 0xCCCCCCCC, 0xF0F0F0F0, 0xFF00FF00, 0xFFFF0000};

        /** By passes and bar: the sets from which the second one is reached by just so many passes. */
        private final int[] reaching = new int[(MOST_BETWEEN + 2) * BARS];

        /** How many strangers are wanted from one who is unlike in this set; no gate ever wants as many as 12. */
        int fewest(Told told, int unlike) {
            for (int bar = 0; bar < BARS; bar++) {
                reaching[bar] = 1;
            }
            for (int n = 0; n <= MOST_BETWEEN; n++) {
                for (int bar = 0; bar < told.bars(); bar++) {
                    reaching[(n + 1) * BARS + bar] = reachedBy(told, n, bar);
                }
                if (reaches(n + 1, 0, unlike)) {
                    return n;
                }
            }
            return NONE;
        }

        private boolean reaches(int passes, int bar, int unlike) {
            return (reaching[passes * BARS + bar] >>> unlike & 1) == 1;
        }

        private int reachedBy(Told told, int passes, int bar) {
            int sets = 0;
            for (int turned = 0; turned <= told.sees(); turned++) {
                if ((turned & ~told.sees()) == 0 && told.lets(turned, barredBy(bar))) {
                    sets |= turnedInto(told, turned, reaching[passes * BARS + told.barBehind(turned)]);
                }
            }
            return sets;
        }

        /** The sets from which one of these is got by another VALUE of each THING turned. */
        private int turnedInto(Told told, int turned, int sets) {
            int from = sets;
            for (int t = 0; t < told.things; t++) {
                if ((turned >>> t & 1) == 1) {
                    from = turnedOne(told.values[t], t, from);
                }
            }
            return from;
        }

        private int turnedOne(int values, int t, int sets) {
            if (values < 2) {
                return 0;
            }
            int unlike = sets & HOLDING[t];
            int alike = sets & ~HOLDING[t];
            int from = unlike >>> (1 << t) | alike << (1 << t);
            // With a third VALUE one unlike can turn and be unlike still.
            return values > 2 ? from | unlike : from;
        }

        /** The least CODE of a first stranger, behind whom just n passes are left. */
        int leastFirst(Told told, int first, int second, int n) {
            int codes = told.codes();
            for (int code = 0; code < codes; code++) {
                int look = told.lookOfCode(code);
                int turned = unlike(first, look) & told.sees();
                int left = unlike(look, second) & told.sees();
                if (told.lets(turned, 0) && reaches(n, told.barBehind(turned), left)) {
                    return code;
                }
            }
            return NONE;
        }
    }

    /** LENT; TURNS is as ONE here, as nothing is said to have DIFFERED before. */
    private static final class Lending {
        private static final int TOO_MANY = 1000;

        /** By place in THE ROW and hat worn there: the fewest others from there to its end. */
        private final int[] others = new int[MOST_IN_ROW * MOST_HATS];

        int fewest(Told told, Row row) {
            for (int k = row.size - 1; k >= 0; k--) {
                for (int hat = 0; hat < told.hatCount; hat++) {
                    others[k * MOST_HATS + hat] = othersFrom(told, row, k, hat);
                }
            }
            int fewest = row.size == 0 ? 0 : TOO_MANY;
            for (int hat = 0; hat < told.hatCount && row.size > 0; hat++) {
                fewest = Math.min(fewest, others[hat]);
            }
            return fewest < TOO_MANY ? fewest : NONE;
        }

        private int othersFrom(Told told, Row row, int k, int hat) {
            int own = told.look(row.at(k));
            int look = told.lookWithHat(own, hat);
            int rest = k + 1 < row.size ? TOO_MANY : 0;
            for (int next = 0; next < told.hatCount && k + 1 < row.size; next++) {
                if (mayFollow(told, row, look, k + 1, next)) {
                    rest = Math.min(rest, others[(k + 1) * MOST_HATS + next]);
                }
            }
            return Math.min(TOO_MANY, Integer.bitCount(unlike(own, look)) + rest);
        }

        private boolean mayFollow(Told told, Row row, int look, int k, int hat) {
            int next = told.lookWithHat(told.look(row.at(k)), hat);
            return told.lets(unlike(look, next) & told.sees(), 0);
        }

        int codeAt(Told told, Row row, int i) {
            int left = fewest(told, row);
            int look = 0;
            for (int k = 0; k <= i && k < row.size; k++) {
                // With none at all no hat leaves so many: NONE is below what any place has.
                int hat = firstHat(told, row, look, k, left);
                if (hat == NONE) {
                    return NONE;
                }
                int own = told.look(row.at(k));
                look = told.lookWithHat(own, hat);
                left -= Integer.bitCount(unlike(own, look));
            }
            return told.code(look);
        }

        /** Hats are in the order of CODES, so that the first that leaves so many others is the least. */
        private int firstHat(Told told, Row row, int ahead, int k, int left) {
            for (int hat = 0; hat < told.hatCount; hat++) {
                boolean fits = k == 0 || mayFollow(told, row, ahead, k, hat);
                if (fits && others[k * MOST_HATS + hat] == left) {
                    return hat;
                }
            }
            return NONE;
        }
    }
}
