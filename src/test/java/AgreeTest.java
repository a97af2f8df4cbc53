import java.util.ArrayList;
import java.util.Arrays;
import java.util.HashSet;
import java.util.List;
import java.util.Random;
import java.util.Set;

/** That the calls agree with one another as the document ties them together; drawn gates, no second writing of the document. */
public final class AgreeTest {
    private static final int NONE = UnlikeGate.NONE;
    private static final int SCENES = 500;
    private static final Check CHECK = new Check();

    private final Random random;
    private final Scene scene;
    private final int persons;
    private final int all;

    private AgreeTest(int seed) {
        random = new Random(seed);
        scene = Scene.drawn(random);
        persons = scene.persons();
        all = (1 << persons) - 1;
    }

    public static void main(String[] args) {
        for (int seed = 0; seed < SCENES; seed++) {
            AgreeTest test = new AgreeTest(seed);
            test.judgedAsTheGateDoes();
            test.longestIsOneOfItsRows();
            test.proofSaysThatTheyCant();
            test.betweenCountsRowsThatJudgeLetsPass();
            test.nearestIsTheLeastBetween();
            test.rowsPassBackwardsToo();
            test.strangersCanBeTold();
            test.lentRowsPass();
            test.mustSeeIsSeenAsAll();
            test.crowdIsWhoGoesInOrOut();
            test.undoneAndKeptAreAsBefore();
            test.otherOrderOfThings();
            test.likeIn("values renamed", test.scene.renamed());
            test.likeIn("unseen things alike", test.scene.blind());
        }
        CHECK.end();
    }

    private void same(String what, long got, long due) {
        CHECK.same(what + " in " + scene.text(), got, due);
    }

    private void holds(String what, boolean is) {
        CHECK.holds(what + " in " + scene.text(), is);
    }

    private int anyone() {
        return random.nextInt(persons);
    }

    private int[] order(int n) {
        int[] order = new int[n];
        for (int k = 0; k < n; k++) {
            int at = random.nextInt(k + 1);
            order[k] = order[at];
            order[at] = k;
        }
        return order;
    }

    /** The first of them whom the gate refuses. */
    @Says("who goes in, who goes out, who is refused; told rows judged;")
    private void judgedAsTheGateDoes() {
        int[] row = order(persons);
        UnlikeGate gate = scene.laid();
        int refused = NONE;
        for (int k = 0; k < persons && refused == NONE; k++) {
            int may = gate.may(row[k]);
            int in = gate.goIn(row[k]);
            same("goIn is as may said", in, may == 1 ? k + 1 : UnlikeGate.NO);
            refused = may == 1 ? NONE : k;
        }
        same("judge of " + Arrays.toString(row), scene.withRow(row).judge(), refused);
    }

    @Says("the longest row of those who wait")
    private void longestIsOneOfItsRows() {
        UnlikeGate gate = scene.laid();
        int set = random.nextInt(all + 1);
        int most = gate.longest(set, -1);
        int[] row = new int[most];
        Set<Integer> once = new HashSet<>();
        for (int k = 0; k < most; k++) {
            row[k] = gate.longest(set, k);
            holds("of the set " + set, (set >>> row[k] & 1) == 1);
            holds("once", once.add(row[k]));
        }
        same("behind the row", gate.longest(set, most), NONE);
        holds("the row " + Arrays.toString(row) + " passes", scene.isFine(row));
        for (int i = 0; i < persons; i++) {
            if ((set >>> i & 1) == 1) {
                int less = gate.longest(set & ~(1 << i), -1);
                holds("without one", less <= most && less >= most / 2);
                holds("without one who is not in the row", once.contains(i) || less == most);
            }
        }
        holds("drawn rows are none of more", drawnRow(set).size() <= most);
    }

    /** A row of these taken by whoever may pass next, as drawn. */
    private List<Integer> drawnRow(int set) {
        UnlikeGate gate = scene.laid();
        List<Integer> row = new ArrayList<>();
        for (int tries = 0; tries < 30; tries++) {
            int i = anyone();
            if ((set >>> i & 1) == 1 && gate.person(i, -2) == 0 && gate.goIn(i) > 0) {
                row.add(i);
            }
        }
        return row;
    }

    @Says("whether all can be one row, a proof by odd and even that they can't;")
    private void proofSaysThatTheyCant() {
        UnlikeGate gate = scene.laid();
        if (gate.proof() == 1) {
            holds("not all in one row", gate.longest(all, -1) < persons);
        }
    }

    @Says("who can have been between;")
    private void betweenCountsRowsThatJudgeLetsPass() {
        int i = anyone();
        int j = anyone();
        int one = 0;
        int two = 0;
        for (int k = 0; k < persons; k++) {
            one += scene.isFine(i, k, j) ? 1 : 0;
            for (int m = 0; m < persons; m++) {
                two += scene.isFine(i, k, m, j) ? 1 : 0;
            }
        }
        UnlikeGate gate = scene.laid();
        same("between at 0", gate.between(i, j, 0), scene.isFine(i, j) ? 1 : 0);
        same("between at 1", gate.between(i, j, 1), one);
        same("between at 2", gate.between(i, j, 2), two);
    }

    @Says("the fewest between two")
    private void nearestIsTheLeastBetween() {
        UnlikeGate gate = scene.laid();
        int i = anyone();
        int j = anyone();
        int least = NONE;
        for (int n = 12; n >= 0; n--) {
            least = gate.between(i, j, n) > 0 ? n : least;
        }
        same("nearest", gate.nearest(i, j), least);
        if (least != NONE) {
            holds("strangers are as good as people", gate.steps(i, j, 0) != NONE && gate.steps(i, j, 0) <= least);
        }
        holds("no stranger", gate.steps(i, j, 0) == 0 == (gate.between(i, j, 0) == 1));
    }

    private void rowsPassBackwardsToo() {
        UnlikeGate gate = scene.laid();
        int i = anyone();
        int j = anyone();
        for (int n = 0; n <= 12; n++) {
            same("between backwards", gate.between(j, i, n), gate.between(i, j, n));
        }
        same("nearest backwards", gate.nearest(j, i), gate.nearest(i, j));
        same("steps backwards", gate.steps(j, i, 0), gate.steps(i, j, 0));
        same("differ backwards", gate.differ(j, i, false), gate.differ(i, j, false));
    }

    /** The first of them told as a person; behind him one fewer is wanted. */
    @Says("strangers hired as steps")
    private void strangersCanBeTold() {
        UnlikeGate gate = scene.laid();
        int i = anyone();
        int j = anyone();
        int fewest = gate.steps(i, j, 0);
        if (fewest < 1) {
            same("no first one", gate.steps(i, j, 1), NONE);
            return;
        }
        Scene hired = scene.copy();
        hired.people = new int[][] {scene.people[i], scene.valuesOf(gate.steps(i, j, 1)), scene.people[j]};
        holds("the first stranger passes", hired.isFine(0, 1));
        int rest = hired.laid().steps(1, 2, 0);
        if (scene.law == Scene.TURNS) {
            holds("behind the first stranger so many at most", rest <= fewest - 1);
        } else {
            same("behind the first stranger", rest, fewest - 1);
            leastOfAll(hired, fewest, gate.steps(i, j, 1));
        }
    }

    private void leastOfAll(Scene hired, int fewest, int first) {
        for (int code = 0; code < first; code++) {
            hired.people[1] = scene.valuesOf(code);
            UnlikeGate gate = hired.laid();
            holds("no lesser code than " + first, gate.between(0, 1, 0) == 0 || gate.steps(1, 2, 0) != fewest - 1);
        }
    }

    @Says("hats lent so that a told row may pass;")
    private void lentRowsPass() {
        int[] row = new int[random.nextInt(10)];
        for (int k = 0; k < row.length; k++) {
            row[k] = anyone();
        }
        UnlikeGate gate = scene.withRow(row);
        Scene worn = scene.copy();
        worn.law = scene.law == Scene.TURNS ? 0 : scene.law;
        holds("none lent", gate.lent(-1) == 0 == worn.isFine(row));
        if (gate.lent(-1) == NONE) {
            return;
        }
        worn.people = new int[row.length][];
        int others = 0;
        int[] inTurn = new int[row.length];
        for (int k = 0; k < row.length; k++) {
            worn.people[k] = scene.valuesOf(gate.lent(k));
            inTurn[k] = k;
            for (int t = 0; t < scene.things(); t++) {
                boolean other = worn.people[k][t] != scene.people[row[k]][t];
                others += other ? 1 : 0;
                holds("only what can be borrowed", !other || scene.borrowed[t] == 1);
            }
        }
        same("so many are others", others, gate.lent(-1));
        holds("they pass", row.length == 0 || worn.isFine(inTurn));
    }

    @Says("the fewest things that a guard must see;")
    private void mustSeeIsSeenAsAll() {
        int must = scene.laid().mustSee();
        Scene seen = scene.copy();
        seen.guard = 31;
        List<Long> due = pairs(seen);
        int first = NONE;
        for (int n = 0; n <= scene.things() && first == NONE; n++) {
            for (int set = 0; set < 1 << scene.things() && first == NONE; set++) {
                seen.guard = set;
                first = Integer.bitCount(set) == n && pairs(seen).equals(due) ? set : NONE;
            }
        }
        same("mustSee", must, first);
    }

    private static List<Long> pairs(Scene scene) {
        UnlikeGate gate = scene.laid();
        List<Long> pairs = new ArrayList<>();
        for (int i = 0; i < scene.persons(); i++) {
            for (int j = 0; j < i; j++) {
                pairs.add(gate.between(i, j, 0));
            }
        }
        return pairs;
    }

    /** Whoever comes goes in if he is outside, else out. */
    @Says("crowds by draws;")
    private void crowdIsWhoGoesInOrOut() {
        UnlikeGate gate = scene.laid();
        int z = random.nextInt(10000);
        int n = 1 + random.nextInt(60);
        int passed = 0;
        for (int k = 0; k < n; k++) {
            long x = 7919L * z + 6151L * k + 1;
            int i = (int) (x * x % 65521 % persons);
            int went = gate.person(i, -2) == 0 ? gate.goIn(i) : gate.goOut(i);
            passed += went >= 0 ? 1 : 0;
        }
        same("crowd " + z + " of " + n, gate.crowd(z, n, 0), passed);
        same("the last of crowd " + z + " of " + n, gate.crowd(z, n, 1), gate.last());
    }

    @Says("goings undone, gates kept.")
    private void undoneAndKeptAreAsBefore() {
        UnlikeGate gate = scene.laid();
        List<String> stood = new ArrayList<>();
        String kept = stand(gate);
        gate.keep();
        for (int tries = 0; tries < 25; tries++) {
            int i = anyone();
            String before = stand(gate);
            if (gate.goIn(i) >= 0 || gate.goOut(i) >= 0) {
                stood.add(before);
            } else {
                holds("refused", before.equals(stand(gate)));
            }
        }
        int more = Math.min(8, stood.size());
        for (int k = 1; k <= more; k++) {
            same("undo", gate.undo(), more - k);
            holds("undone", stood.get(stood.size() - k).equals(stand(gate)));
        }
        same("undo of none", gate.undo(), UnlikeGate.NO);
        same("back", gate.back(), 0);
        holds("as kept", kept.equals(stand(gate)));
    }

    private String stand(UnlikeGate gate) {
        StringBuilder stand = new StringBuilder().append(gate.last());
        for (int i = 0; i < persons; i++) {
            stand.append(' ').append(gate.person(i, -2)).append(gate.may(i));
        }
        return stand.toString();
    }

    private void otherOrderOfThings() {
        int[] order = order(scene.things());
        Scene other = scene.inOrder(order);
        likeIn("things in another order", other);
        same("mustSee, how many", Integer.bitCount(other.laid().mustSee()), Integer.bitCount(scene.laid().mustSee()));
        int i = anyone();
        int j = anyone();
        int differ = scene.laid().differ(i, j, true);
        int turned = other.laid().differ(i, j, true);
        for (int t = 0; t < scene.things(); t++) {
            same("differ in thing " + t, turned >>> t & 1, differ >>> order[t] & 1);
        }
    }

    /** All that hangs only on who may pass behind whom. */
    private void likeIn(String what, Scene other) {
        UnlikeGate gate = scene.laid();
        UnlikeGate like = other.laid();
        for (int k = -1; k <= persons; k++) {
            same("longest, " + what, like.longest(all, k), gate.longest(all, k));
        }
        for (int tries = 0; tries < 5; tries++) {
            int i = anyone();
            int j = anyone();
            int n = random.nextInt(13);
            int z = random.nextInt(10000);
            same("between, " + what, like.between(i, j, n), gate.between(i, j, n));
            same("nearest, " + what, like.nearest(i, j), gate.nearest(i, j));
            same("steps, " + what, like.steps(i, j, 0), gate.steps(i, j, 0));
            same("crowd, " + what, like.crowd(z, 60, 0), gate.crowd(z, 60, 0));
            same("crowd's last, " + what, like.crowd(z, 60, 1), gate.crowd(z, 60, 1));
            gate.add(i);
            like.add(i);
            gate.add(j);
            like.add(j);
        }
        same("judge, " + what, like.judge(), gate.judge());
        same("lent, " + what, like.lent(-1), gate.lent(-1));
        same("proof, " + what, like.proof(), gate.proof());
    }
}
