/** Promises 13 to 17: add, noRow, judge, longest, proof. */
public final class RowsTest {
    private static final Check CHECK = new Check();
    /** 000, 001, 011, 111, 001, 110. */
    private static final String SIX = "t2,0;t2,0;t2,0;p000;p001;p011;p111;p001;p110;";
    private static final String CUBE = "t2,0;t2,0;t2,0;";

    public static void main(String[] args) {
        add();
        judge();
        judgeByTurns();
        judgeIsNotTheGate();
        longestByOne();
        longestByTurns();
        longestOthers();
        longestBad();
        longestOfManyAlike();
        proof();
        proofNot();
        CHECK.end();
    }

    private static void add() {
        UnlikeGate gate = Check.laid(SIX);
        int[] bad = {-1, 6, Integer.MIN_VALUE, Integer.MAX_VALUE};
        CHECK.same("no row yet", gate.noRow(), 0);
        for (int k = 1; k <= 16; k++) {
            CHECK.same("add", gate.add(k % 3), k);
        }
        CHECK.same("full", gate.add(0), UnlikeGate.FULL);
        for (int i : bad) {
            CHECK.same("BAD ahead of FULL", gate.add(i), UnlikeGate.BAD);
        }
        CHECK.same("sixteen", gate.count(3), 16);
        CHECK.same("noRow", gate.noRow(), 16);
        CHECK.same("none", gate.count(3), 0);
        CHECK.same("noRow", gate.noRow(), 0);
        for (int i : bad) {
            CHECK.same("BAD", gate.add(i), UnlikeGate.BAD);
        }
        CHECK.same("none", gate.count(3), 0);
        CHECK.same("add", gate.add(5), 1);
    }

    private static void judged(String text, String row, int due) {
        UnlikeGate gate = Check.laid(text);
        for (int k = 0; k < row.length(); k++) {
            gate.add(row.charAt(k) - '0');
        }
        CHECK.same("judge of " + row + " by " + text, gate.judge(), due);
        CHECK.same("judge again", gate.judge(), due);
    }

    private static void judge() {
        judged(SIX, "", UnlikeGate.NONE);
        judged(SIX, "5", UnlikeGate.NONE);
        judged(SIX, "012353210404", UnlikeGate.NONE);
        judged(SIX, "00", 1);
        judged(SIX, "14", 1);
        judged(SIX, "0124", UnlikeGate.NONE);
        judged(SIX, "01251", 3);
        judged(SIX, "0101010101010101", UnlikeGate.NONE);
        judged(SIX, "0101010101010100", 15);
        judged(SIX + "l1;", "0205", UnlikeGate.NONE);
        judged(SIX + "l1;", "02051", 4);
        judged(SIX + "l1;", "130", 2);
        judged(SIX + "l3;", "0014123355", UnlikeGate.NONE);
        judged(SIX + "l3;", "001402", 5);
        judged(SIX + "g3;", "02320", UnlikeGate.NONE);
        judged(SIX + "g3;", "02352", 3);
        judged(SIX + "g3;", "01", 1);
    }

    private static void judgeByTurns() {
        judged(SIX + "l2;", "01235", UnlikeGate.NONE);
        judged(SIX + "l2;", "010", 2);
        judged(SIX + "l2;", "123", UnlikeGate.NONE);
        judged(SIX + "l2;", "00", 1);
        judged(SIX + "l2;", "0121", 3);
        judged(SIX + "l2;", "02", 1);
    }

    private static void judgeIsNotTheGate() {
        UnlikeGate gate = Check.laid(SIX + "l2;");
        gate.goIn(0);
        gate.goIn(1);
        gate.add(0);
        gate.add(1);
        gate.add(2);
        CHECK.same("judge", gate.judge(), UnlikeGate.NONE);
        CHECK.same("the gate stays", gate.last(), 1);
        CHECK.same("in what he differed stays", gate.may(0), 0);
        CHECK.same("may", gate.may(2), 1);
    }

    private static void longest(UnlikeGate gate, int set, String due) {
        CHECK.same("longest(" + set + ", -1)", gate.longest(set, -1), due.length());
        for (int i = 0; i < due.length(); i++) {
            CHECK.same("longest(" + set + ", " + i + ") of " + due, gate.longest(set, i), due.charAt(i) - '0');
        }
        for (int i = due.length(); i < 12; i++) {
            CHECK.same("longest(" + set + ", " + i + ")", gate.longest(set, i), UnlikeGate.NONE);
        }
        CHECK.same("beyond", gate.longest(set, Integer.MAX_VALUE), UnlikeGate.NONE);
    }

    private static void longestByOne() {
        UnlikeGate gate = Check.laid(SIX);
        longest(gate, 0, "");
        longest(gate, 1, "0");
        longest(gate, 32, "5");
        longest(gate, 18, "1");
        longest(gate, 15, "0123");
        longest(gate, 19, "104");
        longest(gate, 63, "104235");
        longest(gate, 47, "01235");
        longest(gate, 33, "0");
        longest(gate, 46, "1235");
        longest(gate, 44, "235");
    }

    private static void longestByTurns() {
        UnlikeGate gate = Check.laid(SIX + "l2;");
        longest(gate, 63, "01235");
        longest(gate, 19, "01");
        longest(gate, 62, "1235");
        // 00, 01, 11, 10 and 00 again: round by turns, from the first.
        gate = Check.laid("t2,0;t2,0;p00;p01;p11;p10;p00;l2;");
        longest(gate, 31, "01234");
        // One thing: no third one by TURNS, though by ONE there is.
        longest(Check.laid("t3,0;p0;p1;p2;l2;"), 7, "01");
        longest(Check.laid("t3,0;p0;p1;p2;l0;"), 7, "012");
        // The best second one by what follows is barred by the first step.
        gate = Check.laid("t4,0;t2,0;p00;p10;p20;p21;p30;l2;");
        longest(gate, 31, "023");
    }

    private static void longestOthers() {
        longest(Check.laid(SIX + "l1;"), 63, "025");
        longest(Check.laid(SIX + "l3;"), 63, "014235");
        longest(Check.laid(SIX + "g0;"), 63, "0");
        longest(Check.laid(SIX + "l3;g0;"), 63, "012345");
    }

    private static void longestBad() {
        UnlikeGate gate = Check.laid(SIX);
        int[] sets = {-1, 64, 65, 127, 512, Integer.MIN_VALUE, Integer.MAX_VALUE};
        for (int set : sets) {
            CHECK.same("set " + set, gate.longest(set, -1), UnlikeGate.BAD);
            CHECK.same("set " + set, gate.longest(set, 0), UnlikeGate.BAD);
            CHECK.same("set " + set, gate.longest(set, 100), UnlikeGate.BAD);
        }
        CHECK.same("i -2", gate.longest(63, -2), UnlikeGate.BAD);
        CHECK.same("i least", gate.longest(0, Integer.MIN_VALUE), UnlikeGate.BAD);
    }

    private static void longestOfManyAlike() {
        UnlikeGate gate = Check.laid("t2,0;t2,0;p11;p00;p00;p00;p00;p00;p00;p00;p00;l3;");
        longest(gate, 511, "12345678");
        longest(gate, 257, "0");
        longest(gate, 385, "78");
        // By ONE between 0s and 1s in turn: one more of the many.
        gate = Check.laid("t2,0;p0;p0;p1;p0;p1;p0;p0;p1;p0;");
        longest(gate, 511, "0214375");
    }

    private static int proofOf(String text) {
        return Check.laid(text).proof();
    }

    private static void proof() {
        CHECK.same("three odd", proofOf(CUBE + "p001;p010;p100;"), 1);
        CHECK.same("two odd", proofOf(CUBE + "p001;p010;"), 1);
        CHECK.same("three odd, one even", proofOf(CUBE + "p001;p010;p111;p000;"), 1);
        CHECK.same("three even, one odd", proofOf(CUBE + "p000;p110;p101;p001;"), 1);
        CHECK.same("two even", proofOf(CUBE + "p000;p000;"), 1);
        CHECK.same("a thing of one value", proofOf("t2,0;t1,0;t2,1;p000;p101;"), 1);
        CHECK.same("guard told all", proofOf(CUBE + "p000;p000;g7;"), 1);
        CHECK.same("guard told more", proofOf(CUBE + "p000;p000;g15;l2;l0;"), 1);
        CHECK.same("nine", proofOf(CUBE + "p000;p001;p010;p011;p100;p101;p110;p111;p000;"), 0);
    }

    private static void proofNot() {
        CHECK.same("one", proofOf(CUBE + "p000;"), 0);
        CHECK.same("one odd", proofOf(CUBE + "p100;"), 0);
        CHECK.same("as many", proofOf(CUBE + "p000;p001;"), 0);
        CHECK.same("one more", proofOf(CUBE + "p000;p001;p110;"), 0);
        CHECK.same("one fewer", proofOf(CUBE + "p100;p001;p110;"), 0);
        CHECK.same("by TWO", proofOf(CUBE + "p000;p000;l1;"), 0);
        CHECK.same("by TURNS", proofOf(CUBE + "p000;p000;l2;"), 0);
        CHECK.same("by ONE OR NONE", proofOf(CUBE + "p000;p000;l3;"), 0);
        CHECK.same("guard sees not all", proofOf(CUBE + "p000;p000;g6;"), 0);
        CHECK.same("guard sees none", proofOf(CUBE + "p000;p000;g0;"), 0);
        CHECK.same("three values", proofOf("t2,0;t3,0;p00;p00;"), 0);
        CHECK.same("four values", proofOf("t4,0;p0;p0;"), 0);
    }
}
