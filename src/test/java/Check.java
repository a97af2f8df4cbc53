import java.nio.charset.StandardCharsets;

/** Counts answers; each test program ends by end(), with exit code 1 if one was wrong. */
final class Check {
    private static final int MOST_SHOWN = 40;

    private int right;
    private int wrong;

    void same(String call, long got, long due) {
        if (got == due) {
            right++;
            return;
        }
        wrong++;
        if (wrong <= MOST_SHOWN) {
            System.out.println(call + " answered " + got + ", due is " + due);
        }
    }

    void holds(String what, boolean is) {
        same(what, is ? 1 : 0, 1);
    }

    int asked() {
        return right + wrong;
    }

    void end() {
        System.out.println(right + " answers right, " + wrong + " wrong");
        if (wrong != 0) {
            System.exit(1);
        }
    }

    /** Writes a text by as few calls as can be. */
    static void write(UnlikeGate gate, String text) {
        byte[] bytes = text.getBytes(StandardCharsets.ISO_8859_1);
        for (int at = 0; at < bytes.length; at += 8) {
            int n = Math.min(8, bytes.length - at);
            gate.write(n, packed(bytes, at, n));
        }
    }

    static long packed(byte[] bytes, int at, int n) {
        long v = 0;
        for (int k = 0; k < n; k++) {
            v = v << 8 | bytes[at + k] & 255;
        }
        return v;
    }

    static UnlikeGate laid(String text) {
        UnlikeGate gate = new UnlikeGate();
        write(gate, text);
        if (gate.lay() < 1) {
            throw new IllegalStateException("not laid: " + text);
        }
        return gate;
    }
}
