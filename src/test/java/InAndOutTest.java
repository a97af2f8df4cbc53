/** Promises 8 to 12: may, goIn, goOut, undo, last; and of 24 and 25, keep and back, what they do to these. */
public final class InAndOutTest {
    private static final Check CHECK = new Check();
    /** 000, 001, 011, 111, 001, 110. */
    private static final String SIX = "t2,0;t2,0;t2,0;p000;p001;p011;p111;p001;p110;";
    private static final int[] BAD_PERSONS = {-1, 6, 9, 31, 32, Integer.MIN_VALUE, Integer.MAX_VALUE};

    public static void main(String[] args) {
        badPersons();
        byOne();
        byTwo();
        byTurns();
        byOneOrNone();
        guardSeesSome();
        outAsIn();
        undoAll();
        undoLastEight();
        undoTurns();
        keepAndBack();
        keepTurns();
        CHECK.end();
    }

    private static void badPersons() {
        UnlikeGate gate = Check.laid(SIX);
        for (int i : BAD_PERSONS) {
            CHECK.same("may(" + i + ")", gate.may(i), UnlikeGate.BAD);
            CHECK.same("goIn(" + i + ")", gate.goIn(i), UnlikeGate.BAD);
            CHECK.same("goOut(" + i + ")", gate.goOut(i), UnlikeGate.BAD);
        }
        CHECK.same("nobody in", gate.count(2), 0);
        CHECK.same("last", gate.last(), UnlikeGate.NONE);
    }

    /** Checks may of all six at once, a figure each. */
    private static void may(UnlikeGate gate, String when, String due) {
        StringBuilder got = new StringBuilder();
        for (int i = 0; i < due.length(); i++) {
            got.append(gate.may(i));
        }
        CHECK.holds(when + ": " + got + ", due " + due, due.contentEquals(got));
    }

    private static void byOne() {
        UnlikeGate gate = Check.laid(SIX + "l0;");
        may(gate, "nobody", "111111");
        CHECK.same("goIn 0", gate.goIn(0), 1);
        may(gate, "behind 000", "010010");
        CHECK.same("in already", gate.goIn(0), UnlikeGate.NO);
        CHECK.same("may not", gate.goIn(2), UnlikeGate.NO);
        CHECK.same("refused is nothing", gate.last(), 0);
        CHECK.same("goIn 1", gate.goIn(1), 2);
        may(gate, "behind 001", "101000");
        CHECK.same("goIn 2", gate.goIn(2), 3);
        CHECK.same("goIn 3", gate.goIn(3), 4);
        CHECK.same("last", gate.last(), 3);
        may(gate, "behind 111", "001001");
        CHECK.same("in and may", gate.goIn(2), UnlikeGate.NO);
        CHECK.same("in", gate.count(2), 4);
    }

    private static void byTwo() {
        UnlikeGate gate = Check.laid(SIX + "l1;");
        may(gate, "nobody", "111111");
        gate.goIn(0);
        may(gate, "behind 000", "001001");
        gate.goIn(5);
        may(gate, "behind 110", "101000");
        CHECK.same("goOut 0", gate.goOut(0), 1);
        CHECK.same("last", gate.last(), 0);
    }

    private static void byTurns() {
        UnlikeGate gate = Check.laid(SIX + "l2;");
        may(gate, "nobody", "111111");
        gate.goIn(0);
        may(gate, "the first one bars nothing", "010010");
        gate.goIn(1);
        may(gate, "behind 001, by thing 2", "001000");
        CHECK.same("not back by the same", gate.goOut(0), UnlikeGate.NO);
        gate.goIn(2);
        may(gate, "behind 011, by thing 1", "000100");
        gate.goIn(3);
        may(gate, "behind 111, by thing 0", "000001");
        gate.goIn(5);
        may(gate, "behind 110, by thing 2", "000000");
        CHECK.same("in", gate.count(2), 5);
    }

    private static void byOneOrNone() {
        UnlikeGate gate = Check.laid(SIX + "l3;");
        may(gate, "nobody", "111111");
        gate.goIn(1);
        may(gate, "behind 001", "111010");
        CHECK.same("behind himself", gate.goOut(1), 0);
        CHECK.same("again", gate.goIn(1), 1);
        CHECK.same("alike", gate.goIn(4), 2);
        CHECK.same("last", gate.last(), 4);
    }

    private static void guardSeesSome() {
        UnlikeGate gate = Check.laid(SIX + "g3;");
        gate.goIn(0);
        may(gate, "behind 00, thing 2 not seen", "001000");
        gate = Check.laid(SIX + "l3;g0;");
        gate.goIn(0);
        may(gate, "nothing seen", "111111");
        gate = Check.laid(SIX + "l2;g0;");
        gate.goIn(0);
        may(gate, "nothing seen by turns", "000000");
        gate = Check.laid(SIX + "l2;g6;");
        gate.goIn(1);
        gate.goIn(2);
        may(gate, "behind 11 by thing 1", "000001");
    }

    private static void outAsIn() {
        UnlikeGate gate = Check.laid(SIX);
        CHECK.same("out, not in", gate.goOut(0), UnlikeGate.NO);
        gate.goIn(0);
        CHECK.same("out behind himself", gate.goOut(0), UnlikeGate.NO);
        gate.goIn(1);
        CHECK.same("out", gate.goOut(0), 1);
        CHECK.same("last", gate.last(), 0);
        CHECK.same("outside", gate.person(0, -2), 0);
        CHECK.same("out behind one who is out", gate.goOut(1), 0);
        CHECK.same("not in", gate.goOut(1), UnlikeGate.NO);
        CHECK.same("in again", gate.goIn(0), 1);
        CHECK.same("undoable", gate.count(4), 5);
    }

    private static void undoAll() {
        UnlikeGate gate = Check.laid(SIX);
        gate.goIn(0);
        gate.goIn(1);
        gate.goOut(0);
        gate.goIn(2);
        gate.goIn(4);
        CHECK.same("undoable", gate.count(4), 4);
        CHECK.same("undo", gate.undo(), 3);
        CHECK.same("in", gate.person(4, -2), 0);
        CHECK.same("out still", gate.person(0, -2), 0);
        CHECK.same("last", gate.last(), 0);
        CHECK.same("undo", gate.undo(), 2);
        CHECK.same("in again", gate.person(0, -2), 1);
        CHECK.same("last", gate.last(), 1);
        CHECK.same("goIn 2", gate.goIn(2), 3);
        CHECK.same("undo", gate.undo(), 2);
        CHECK.same("undo", gate.undo(), 1);
        CHECK.same("undo", gate.undo(), 0);
        CHECK.same("nobody", gate.last(), UnlikeGate.NONE);
        CHECK.same("in", gate.count(2), 0);
        may(gate, "nobody again", "111111");
        CHECK.same("no more", gate.undo(), UnlikeGate.NO);
    }

    private static void undoLastEight() {
        UnlikeGate gate = Check.laid("t2,0;p0;p1;");
        int[] insides = {1, 2, 1, 0, 1, 2, 1, 0, 1, 2, 1};
        for (int k = 0; k < insides.length; k++) {
            int i = k % 2;
            int got = k / 2 % 2 == 0 ? gate.goIn(i) : gate.goOut(i);
            CHECK.same("going " + k, got, insides[k]);
            CHECK.same("undoable", gate.count(4), Math.min(8, k + 1));
        }
        for (int k = insides.length - 2; k >= 2; k--) {
            CHECK.same("undo", gate.undo(), k - 2);
            CHECK.same("in", gate.count(2), insides[k]);
            CHECK.same("last", gate.last(), k % 2);
        }
        CHECK.same("no more", gate.undo(), UnlikeGate.NO);
        CHECK.same("in", gate.count(2), 1);
    }

    private static void undoTurns() {
        UnlikeGate gate = Check.laid(SIX + "l2;");
        gate.goIn(0);
        gate.goIn(1);
        gate.goIn(2);
        gate.undo();
        may(gate, "behind 001 by thing 2 again", "001000");
        gate.undo();
        may(gate, "behind 000, the first one, again", "010010");
    }

    private static void keepAndBack() {
        UnlikeGate gate = Check.laid(SIX);
        CHECK.same("keep nobody", gate.keep(), 1);
        gate.goIn(0);
        gate.goIn(1);
        CHECK.same("keep", gate.keep(), 2);
        CHECK.same("full", gate.keep(), UnlikeGate.FULL);
        CHECK.same("kept", gate.count(5), 2);
        CHECK.same("undoable still", gate.count(4), 2);
        gate.goIn(2);
        gate.goOut(1);
        gate.add(3);
        CHECK.same("back", gate.back(), 1);
        CHECK.same("in", gate.count(2), 2);
        CHECK.same("in", gate.person(1, -2), 1);
        CHECK.same("last", gate.last(), 1);
        CHECK.same("nothing undone", gate.count(4), 0);
        CHECK.same("undo", gate.undo(), UnlikeGate.NO);
        CHECK.same("the row stays", gate.count(3), 1);
        CHECK.same("may", gate.goIn(2), 3);
        CHECK.same("undoable", gate.count(4), 1);
        CHECK.same("keep again", gate.keep(), 2);
        gate.undo();
        CHECK.same("back to what was undone", gate.back(), 1);
        CHECK.same("in", gate.count(2), 3);
        CHECK.same("back to nobody", gate.back(), 0);
        CHECK.same("in", gate.count(2), 0);
        CHECK.same("last", gate.last(), UnlikeGate.NONE);
        may(gate, "nobody", "111111");
        CHECK.same("no more", gate.back(), UnlikeGate.NO);
        CHECK.same("kept", gate.count(5), 0);
    }

    private static void keepTurns() {
        UnlikeGate gate = Check.laid(SIX + "l2;");
        gate.goIn(0);
        gate.goIn(1);
        gate.keep();
        gate.goIn(2);
        gate.goIn(3);
        gate.back();
        may(gate, "behind 001 by thing 2", "001000");
    }
}
