import java.util.Random;

/** Promise 20 for every kind of THINGS, by each LAW, for every set in which two can differ: a search without bound. */
public final class StepsTest {
    private static final Check CHECK = new Check();
    private static final Random RANDOM = new Random(20);
    private static final int NEVER = Integer.MAX_VALUE;
    private static int most = 0;

    public static void main(String[] args) {
        for (int things = 1; things <= 5; things++) {
            kinds(new int[things], 0, 1);
        }
        System.out.println("the most strangers ever wanted: " + most);
        CHECK.end();
    }

    /** In rising order of values only: the order of THINGS is then drawn. */
    private static void kinds(int[] values, int t, int least) {
        if (t == values.length) {
            int[] drawn = values.clone();
            for (int k = drawn.length - 1; k > 0; k--) {
                int other = RANDOM.nextInt(k + 1);
                int value = drawn[k];
                drawn[k] = drawn[other];
                drawn[other] = value;
            }
            new StepsTest(drawn).compareAll();
            return;
        }
        for (int n = least; n <= 4; n++) {
            values[t] = n;
            kinds(values, t + 1, n);
        }
    }

    private final int[] values;
    private final int[][] looks;

    private StepsTest(int[] values) {
        this.values = values;
        int codes = 1;
        for (int n : values) {
            codes *= n;
        }
        looks = new int[codes][];
        for (int code = 0; code < codes; code++) {
            looks[code] = look(code);
        }
    }

    private int[] look(int code) {
        int[] look = new int[values.length];
        for (int t = values.length - 1; t >= 0; t--) {
            look[t] = code % values[t];
            code /= values[t];
        }
        return look;
    }

    private int unlike(int a, int b) {
        int set = 0;
        for (int t = 0; t < values.length; t++) {
            set |= looks[a][t] == looks[b][t] ? 0 : 1 << t;
        }
        return set;
    }

    private void compareAll() {
        int[][] unlike = new int[looks.length][looks.length];
        for (int a = 0; a < looks.length; a++) {
            for (int b = 0; b < looks.length; b++) {
                unlike[a][b] = unlike(a, b);
            }
        }
        int all = (1 << values.length) - 1;
        for (int law = 0; law < 4; law++) {
            compare(law, all, unlike);
            compare(law, RANDOM.nextInt(all + 1), unlike);
        }
    }

    private static boolean passes(int law, int differ, int before) {
        int n = Integer.bitCount(differ);
        return law == 1 ? n == 2 : law == 3 ? n < 2 : n == 1 && (law == 0 || differ != before);
    }

    private void compare(int law, int guard, int[][] unlike) {
        int second = RANDOM.nextInt(looks.length);
        int[][] passes = passesTo(law, guard, second, unlike);
        boolean[] tried = new boolean[32];
        int start = RANDOM.nextInt(looks.length);
        for (int k = 0; k < looks.length; k++) {
            int first = (start + k) % looks.length;
            if (!tried[unlike[first][second]]) {
                tried[unlike[first][second]] = true;
                compareTwo(law, guard, first, second, unlike, passes);
            }
        }
    }

    /** By look and what the one there differed in (0: he is behind nobody): the fewest passes, one at least. */
    private int[][] passesTo(int law, int guard, int second, int[][] unlike) {
        int[] befores = law == 2 ? new int[] {0, 1, 2, 4, 8, 16} : new int[] {0};
        int[][] fewest = new int[looks.length][17];
        for (int[] each : fewest) {
            java.util.Arrays.fill(each, NEVER);
        }
        boolean more = true;
        for (int passes = 1; more; passes++) {
            more = false;
            for (int a = 0; a < looks.length; a++) {
                for (int before : befores) {
                    if (fewest[a][before] == NEVER
                        && reaches(law, guard, a, before, passes, second, unlike, fewest)) {
                        fewest[a][before] = passes;
                        more = true;
                    }
                }
            }
        }
        return fewest;
    }

    private boolean reaches(int law, int guard, int a, int before, int passes, int second, int[][] unlike,
            int[][] fewest) {
        if (passes == 1) {
            return passes(law, unlike[a][second] & guard, before);
        }
        for (int b = 0; b < looks.length; b++) {
            int differ = unlike[a][b] & guard;
            if (fewest[b][law == 2 && Integer.bitCount(differ) == 1 ? differ : 0] == passes - 1
                && passes(law, differ, before)) {
                return true;
            }
        }
        return false;
    }

    private void compareTwo(int law, int guard, int first, int second, int[][] unlike, int[][] passes) {
        StringBuilder text = new StringBuilder();
        for (int n : values) {
            text.append('t').append(n).append(",0;");
        }
        for (int code : new int[] {first, second}) {
            text.append('p');
            for (int value : looks[code]) {
                text.append(value);
            }
            text.append(';');
        }
        text.append('l').append(law).append(";g").append(guard).append(';');
        UnlikeGate gate = Check.laid(text.toString());
        int due = passes[first][0] == NEVER ? UnlikeGate.NONE : passes[first][0] - 1;
        most = Math.max(most, due);
        CHECK.same("steps(0, 1, 0) of " + text, gate.steps(0, 1, 0), due);
        int dueFirst = due < 1 ? UnlikeGate.NONE : leastFirst(law, guard, first, due, unlike, passes);
        CHECK.same("steps(0, 1, 1) of " + text, gate.steps(0, 1, 1), dueFirst);
    }

    private int leastFirst(int law, int guard, int first, int left, int[][] unlike, int[][] passes) {
        for (int code = 0; code < looks.length; code++) {
            int differ = unlike[first][code] & guard;
            if (passes(law, differ, 0) && passes[code][law == 2 ? differ : 0] == left) {
                return code;
            }
        }
        return UnlikeGate.NONE;
    }
}
