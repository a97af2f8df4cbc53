import java.util.Random;

/** What a text tells, drawn, so that texts that are alike but for one thing can be made of it. */
final class Scene {
    static final int TURNS = 2;

    int[] values;
    int[] borrowed;
    int[][] people;
    int law;
    int guard;

    static Scene drawn(Random random) {
        Scene scene = new Scene();
        int things = 1 + random.nextInt(5);
        int most = 2 + random.nextInt(3);
        scene.values = new int[things];
        scene.borrowed = new int[things];
        for (int t = 0; t < things; t++) {
            scene.values[t] = random.nextInt(8) == 0 ? 1 : 2 + random.nextInt(most - 1);
        }
        for (int k = random.nextInt(3); k > 0; k--) {
            scene.borrowed[random.nextInt(things)] = 1;
        }
        scene.people = new int[random.nextInt(3) == 0 ? 9 : 1 + random.nextInt(9)][];
        for (int i = 0; i < scene.people.length; i++) {
            scene.people[i] = i == 0 ? new int[things] : scene.people[i - 1].clone();
            for (int k = random.nextInt(3) == 0 ? things : 1 + random.nextInt(2); k > 0; k--) {
                int t = random.nextInt(things);
                scene.people[i][t] = random.nextInt(scene.values[t]);
            }
        }
        scene.law = random.nextInt(4);
        scene.guard = random.nextInt(2) == 0 ? 31 : random.nextInt(32);
        return scene;
    }

    Scene copy() {
        Scene copy = new Scene();
        copy.values = values.clone();
        copy.borrowed = borrowed.clone();
        copy.people = new int[people.length][];
        for (int i = 0; i < people.length; i++) {
            copy.people[i] = people[i].clone();
        }
        copy.law = law;
        copy.guard = guard;
        return copy;
    }

    int things() {
        return values.length;
    }

    int persons() {
        return people.length;
    }

    String text() {
        StringBuilder text = new StringBuilder();
        for (int t = 0; t < values.length; t++) {
            text.append('t').append(values[t]).append(',').append(borrowed[t]).append(';');
        }
        for (int[] person : people) {
            text.append('p');
            for (int value : person) {
                text.append(value);
            }
            text.append(';');
        }
        return text.append('l').append(law).append(";g").append(guard).append(';').toString();
    }

    UnlikeGate laid() {
        return Check.laid(text());
    }

    /** A new gate with this row told. */
    UnlikeGate withRow(int... row) {
        UnlikeGate gate = laid();
        for (int i : row) {
            gate.add(i);
        }
        return gate;
    }

    boolean isFine(int... row) {
        return withRow(row).judge() == UnlikeGate.NONE;
    }

    int[] valuesOf(int code) {
        int[] person = new int[values.length];
        int rest = code;
        for (int t = values.length - 1; t >= 0; t--) {
            person[t] = rest % values[t];
            rest /= values[t];
        }
        return person;
    }

    /** With thing order[t] at t. */
    Scene inOrder(int[] order) {
        Scene other = copy();
        int rest = guard & -1 << things();
        other.guard = rest;
        for (int t = 0; t < things(); t++) {
            other.values[t] = values[order[t]];
            other.borrowed[t] = borrowed[order[t]];
            other.guard |= (guard >>> order[t] & 1) << t;
            for (int i = 0; i < persons(); i++) {
                other.people[i][t] = people[i][order[t]];
            }
        }
        return other;
    }

    /** With the values of each thing turned by one. */
    Scene renamed() {
        Scene other = copy();
        for (int[] person : other.people) {
            for (int t = 0; t < things(); t++) {
                person[t] = (person[t] + 1) % values[t];
            }
        }
        return other;
    }

    /** With the unseen things all told as of one value; the seen ones stay at their places. */
    Scene blind() {
        Scene other = copy();
        for (int t = 0; t < things(); t++) {
            if ((guard >>> t & 1) == 0) {
                other.values[t] = 1;
                for (int[] person : other.people) {
                    person[t] = 0;
                }
            }
        }
        return other;
    }
}
