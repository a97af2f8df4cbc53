import java.util.Random;

/** Runs of calls drawn by fixed seeds, each answer compared with the model's. */
public final class ModelTest {
    private static final int RUNS = 1500;
    private static final int CALLS = 512;

    private final Check check;
    private final Random random;
    private final String run;
    private final UnlikeGate gate = new UnlikeGate();
    private final Model model = new Model();
    private int calls;

    private ModelTest(Check check, int seed) {
        this.check = check;
        this.random = new Random(seed);
        this.run = "run " + seed + ": ";
    }

    public static void main(String[] args) {
        Check check = new Check();
        for (int seed = 0; seed < RUNS; seed++) {
            new ModelTest(check, seed).play(seed % 3 == 0 ? 60 : CALLS);
        }
        check.end();
    }

    private void play(int most) {
        int texts = 0;
        while (calls < most) {
            if (texts == 0 || random.nextInt(40) == 0) {
                tell();
                texts++;
            } else {
                call();
            }
        }
    }

    private void same(String call, long got, long due) {
        calls++;
        // A text that is told last can go beyond: what is answered there is free.
        if (calls <= CALLS) {
            check.same(run + call, got, due);
        }
    }

    /** A number from low to high, now and then one beyond or far off. */
    private int number(int low, int high) {
        switch (random.nextInt(40)) {
            case 0:
                return high + 1;
            case 1:
                return low - 1;
            case 2:
                return random.nextInt();
            default:
                return low + random.nextInt(high - low + 1);
        }
    }

    private int person() {
        return number(0, model.count(0) - 1);
    }

    private void tell() {
        if (random.nextInt(8) != 0) {
            same("wipe()", gate.wipe(), model.wipe());
        }
        String text = drawnText();
        if (random.nextInt(4) == 0) {
            text = spoilt(text);
        }
        int at = 0;
        while (at < text.length()) {
            int n = Math.min(text.length() - at, 1 + random.nextInt(8));
            long v = random.nextLong();
            for (int k = 0; k < n; k++) {
                v = v << 8 | text.charAt(at + k);
            }
            same("write(" + n + ", " + v + ")", gate.write(n, v), model.write(n, v));
            at += n;
        }
        same("fault() of " + text, gate.fault(), model.fault());
        same("lay() of " + text, gate.lay(), model.lay());
    }

    private String drawnText() {
        StringBuilder text = new StringBuilder();
        int things = 1 + random.nextInt(5);
        int mostValues = 2 + random.nextInt(3);
        int[] values = new int[things];
        int borrowed = 0;
        for (int t = 0; t < things; t++) {
            values[t] = random.nextInt(8) == 0 ? 1 : 2 + random.nextInt(mostValues - 1);
            int b = borrowed < 2 ? random.nextInt(2) : 0;
            borrowed += b;
            text.append(random.nextInt(9) == 0 ? "t0" : "t").append(values[t]).append(',').append(b).append(';');
            lawOrGuard(text, 12);
        }
        int persons = random.nextInt(3) == 0 ? 9 : 1 + random.nextInt(9);
        char[] person = new char[things];
        java.util.Arrays.fill(person, '0');
        for (int i = 0; i < persons; i++) {
            int changes = random.nextInt(3) == 0 ? things : random.nextInt(3);
            for (int k = 0; k < changes; k++) {
                int t = random.nextInt(things);
                person[t] = (char) ('0' + random.nextInt(values[t]));
            }
            text.append('p').append(person).append(';');
            lawOrGuard(text, 20);
        }
        text.append('l').append(random.nextInt(4)).append(';');
        lawOrGuard(text, 4);
        return text.toString();
    }

    private void lawOrGuard(StringBuilder text, int seldom) {
        if (random.nextInt(seldom) == 0) {
            text.append('l').append(random.nextInt(4)).append(';');
        }
        if (random.nextInt(seldom) == 0) {
            text.append('g').append(random.nextInt(2) == 0 ? 31 - (1 << random.nextInt(5)) : random.nextInt(32)).append(';');
        }
    }

    private String spoilt(String text) {
        StringBuilder spoilt = new StringBuilder(text);
        String signs = "tplg,;0123456789/:x";
        int at = random.nextInt(text.length());
        char sign = random.nextInt(9) == 0 ? (char) random.nextInt(256) : signs.charAt(random.nextInt(signs.length()));
        switch (random.nextInt(4)) {
            case 0:
                spoilt.setCharAt(at, sign);
                break;
            case 1:
                spoilt.insert(at, sign);
                break;
            case 2:
                spoilt.deleteCharAt(at);
                break;
            default:
                spoilt.append(text, at, text.length());
        }
        return spoilt.toString();
    }

    private void call() {
        switch (random.nextInt(8)) {
            case 0:
            case 1:
            case 2:
                goings();
                break;
            case 3:
            case 4:
                rows();
                break;
            case 5:
                looks();
                break;
            default:
                searches();
        }
    }

    private void goings() {
        int i = person();
        switch (random.nextInt(14)) {
            case 0:
                same("undo()", gate.undo(), model.undo());
                break;
            case 1:
                same("keep()", gate.keep(), model.keep());
                break;
            case 2:
                same("back()", gate.back(), model.back());
                break;
            case 3:
                same("last()", gate.last(), model.last());
                break;
            case 4:
            case 5:
                same("may(" + i + ")", gate.may(i), model.may(i));
                break;
            case 6:
            case 7:
            case 8:
                same("goOut(" + i + ")", gate.goOut(i), model.goOut(i));
                break;
            default:
                same("goIn(" + i + ")", gate.goIn(i), model.goIn(i));
        }
    }

    private void rows() {
        int i = person();
        int at = number(-1, Math.max(0, model.count(3) - 1));
        switch (random.nextInt(10)) {
            case 0:
                if (random.nextInt(3) == 0) {
                    same("noRow()", gate.noRow(), model.noRow());
                }
                break;
            case 1:
                same("judge()", gate.judge(), model.judge());
                break;
            case 2:
            case 3:
            case 4:
                same("lent(" + at + ")", gate.lent(at), model.lent(at));
                break;
            default:
                same("add(" + i + ")", gate.add(i), model.add(i));
        }
    }

    private void looks() {
        int i = person();
        int j = person();
        int t = number(-2, model.count(1) - 1);
        int what = number(0, 8);
        boolean seen = random.nextBoolean();
        same("person(" + i + ", " + t + ")", gate.person(i, t), model.person(i, t));
        same("differ(" + i + ", " + j + ", " + seen + ")", gate.differ(i, j, seen), model.differ(i, j, seen));
        same("count(" + what + ")", gate.count(what), model.count(what));
    }

    private void searches() {
        int i = person();
        int j = person();
        int what = number(0, 1);
        switch (random.nextInt(8)) {
            case 0:
                int set = random.nextBoolean() ? (1 << model.count(0)) - 1 : number(0, (1 << model.count(0)) - 1);
                int at = number(-1, 9);
                same("longest(" + set + ", " + at + ")", gate.longest(set, at), model.longest(set, at));
                break;
            case 1:
                same("proof()", gate.proof(), model.proof());
                break;
            case 2:
                same("mustSee()", gate.mustSee(), model.mustSee());
                break;
            case 3:
                same("nearest(" + i + ", " + j + ")", gate.nearest(i, j), model.nearest(i, j));
                break;
            case 4:
            case 5:
                int n = number(0, 12);
                same("between(" + i + ", " + j + ", " + n + ")", gate.between(i, j, n), model.between(i, j, n));
                break;
            case 6:
                int z = number(0, 9999);
                int many = number(1, 60);
                same("crowd(" + z + ", " + many + ", " + what + ")", gate.crowd(z, many, what),
                    model.crowd(z, many, what));
                break;
            default:
                if (random.nextInt(2) == 0) {
                    same("steps(" + i + ", " + j + ", " + what + ")", gate.steps(i, j, what), model.steps(i, j, what));
                }
        }
    }
}
