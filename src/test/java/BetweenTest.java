/** Promises 18 to 23 and 26: between, nearest, steps, lent, mustSee, crowd, count (24 and 25: InAndOutTest). */
public final class BetweenTest {
    private static final Check CHECK = new Check();
    private static final int[] BAD_PERSONS = {-1, 3, 9, Integer.MIN_VALUE, Integer.MAX_VALUE};
    private static final String THREE = "t2,0;t2,0;p00;p01;p11;";
    private static final String TRIANGLE = "t3,0;p0;p1;p2;";

    public static void main(String[] args) {
        between();
        betweenByTurns();
        betweenMost();
        nearest();
        nearestFar();
        steps();
        stepsByTwo();
        stepsByTurns();
        stepsUnseen();
        badOfTwo();
        lent();
        lentOfTwoThings();
        lentLongRow();
        lentByOtherLaws();
        lentBad();
        mustSee();
        mustSeeFewest();
        crowd();
        crowdBad();
        count();
        CHECK.end();
    }

    private static void between() {
        UnlikeGate gate = Check.laid(THREE);
        // 0 - 1 - 2: a path.
        long[] due02 = {0, 1, 0, 2, 0, 4, 0, 8, 0, 16, 0, 32, 0};
        long[] due01 = {1, 0, 2, 0, 4, 0, 8, 0, 16, 0, 32, 0, 64};
        for (int n = 0; n <= 12; n++) {
            CHECK.same("between(0, 2, " + n + ")", gate.between(0, 2, n), due02[n]);
            CHECK.same("between(0, 0, " + n + ")", gate.between(0, 0, n), due02[n]);
            CHECK.same("between(1, 0, " + n + ")", gate.between(1, 0, n), due01[n]);
        }
        gate = Check.laid(TRIANGLE);
        // Walks of m steps in a triangle: (2^m - (-1)^m) / 3 to another one.
        for (int n = 0; n <= 12; n++) {
            int m = n + 1;
            long other = ((1L << m) - (m % 2 == 0 ? 1 : -1)) / 3;
            CHECK.same("between(0, 1, " + n + ")", gate.between(0, 1, n), other);
            CHECK.same("between(2, 2, " + n + ")", gate.between(2, 2, n), (1L << m) - 2 * other);
        }
    }

    private static void betweenByTurns() {
        UnlikeGate gate = Check.laid(TRIANGLE + "l2;");
        CHECK.same("one thing, none between", gate.between(0, 1, 0), 1);
        for (int n = 1; n <= 12; n++) {
            CHECK.same("one thing, " + n, gate.between(0, 1, n), 0);
        }
        gate = Check.laid("t2,0;t2,0;p00;p01;p11;p10;l2;");
        // Round the square, this way or that one, never back.
        for (int n = 0; n <= 12; n++) {
            CHECK.same("square to the next, " + n, gate.between(0, 1, n), n % 2 == 0 ? 1 : 0);
            CHECK.same("square to himself, " + n, gate.between(2, 2, n), n % 4 == 3 ? 2 : 0);
            CHECK.same("square across, " + n, gate.between(0, 2, n), n % 4 == 1 ? 2 : 0);
        }
    }

    private static void betweenMost() {
        UnlikeGate gate = Check.laid("t1,0;p0;p0;p0;p0;p0;p0;p0;p0;p0;l3;");
        long due = 1;
        for (int n = 0; n <= 12; n++) {
            CHECK.same("all, " + n, gate.between(3, 8, n), due);
            CHECK.same("all, himself, " + n, gate.between(8, 8, n), due);
            due *= 9;
        }
        gate = Check.laid("t2,0;t2,0;t2,0;p000;p110;p101;p011;p111;l1;");
        CHECK.same("by TWO", gate.between(0, 3, 0), 1);
        CHECK.same("by TWO", gate.between(0, 3, 1), 2);
        CHECK.same("by TWO", gate.between(0, 0, 1), 3);
        CHECK.same("by TWO", gate.between(0, 4, 6), 0);
    }

    private static void nearest() {
        UnlikeGate gate = Check.laid(THREE);
        CHECK.same("next", gate.nearest(0, 1), 0);
        CHECK.same("one between", gate.nearest(0, 2), 1);
        CHECK.same("himself", gate.nearest(0, 0), 1);
        CHECK.same("by TURNS not to himself", Check.laid(THREE + "l2;").nearest(0, 0), UnlikeGate.NONE);
        CHECK.same("by ONE OR NONE to himself", Check.laid(THREE + "l3;").nearest(2, 2), 0);
        CHECK.same("alone", Check.laid("t4,0;p2;").nearest(0, 0), UnlikeGate.NONE);
        CHECK.same("alike", Check.laid("t4,0;p2;p2;").nearest(0, 1), UnlikeGate.NONE);
        CHECK.same("alike, by another", Check.laid("t4,0;p2;p2;p3;").nearest(0, 1), 1);
        gate = Check.laid("t4,0;t4,0;p00;p01;p11;p12;p22;p23;p33;p30;");
        CHECK.same("far", gate.nearest(0, 4), 3);
        CHECK.same("near round", gate.nearest(0, 6), 1);
        gate = Check.laid("t4,0;t4,0;p00;p01;p11;p12;p22;p23;p33;p30;l2;");
        CHECK.same("round by TURNS", gate.nearest(0, 0), 7);
        CHECK.same("once round more", gate.between(0, 0, 12), 0);
        CHECK.same("square by ONE", Check.laid("t2,0;t2,0;p00;p01;p11;p10;").nearest(0, 0), 1);
        CHECK.same("square by TURNS", Check.laid("t2,0;t2,0;p00;p01;p11;p10;l2;").nearest(0, 0), 3);
    }

    private static void nearestFar() {
        // By TURNS one can have to go down a tail, round a square and back up: 12 between, and 13, which are too many.
        UnlikeGate gate = Check.laid("t4,0;t3,0;t4,0;p000;p020;p022;p222;p202;p001;p003;p303;p301;l2;");
        CHECK.same("12 between", gate.nearest(4, 4), 12);
        CHECK.same("11 between", gate.between(4, 4, 11), 0);
        CHECK.holds("12 between", gate.between(4, 4, 12) > 0);
        gate = Check.laid("t2,0;t3,0;t2,0;t4,0;p0000;p0100;p0101;p0001;p0011;p0211;p0213;p1213;p1013;l2;");
        CHECK.same("13 are too many", gate.nearest(8, 8), UnlikeGate.NONE);
    }

    private static void steps(String text, int i, int j, int due, int dueFirst) {
        UnlikeGate gate = Check.laid(text);
        CHECK.same("steps(" + i + ", " + j + ", 0) of " + text, gate.steps(i, j, 0), due);
        CHECK.same("steps(" + i + ", " + j + ", 1) of " + text, gate.steps(i, j, 1), dueFirst);
    }

    private static void steps() {
        steps(THREE, 0, 1, 0, UnlikeGate.NONE);
        steps(THREE, 0, 2, 1, 1);
        steps(THREE, 2, 0, 1, 1);
        steps(THREE, 2, 2, 1, 1);
        steps(THREE, 1, 1, 1, 0);
        steps("t1,0;p0;p0;", 0, 1, UnlikeGate.NONE, UnlikeGate.NONE);
        steps("t1,0;p0;p0;l3;", 0, 1, 0, UnlikeGate.NONE);
        steps("t4,0;t4,0;t4,0;t4,0;t4,0;p33333;p00000;", 0, 1, 4, 255);
        steps("t4,0;t4,0;t4,0;t4,0;t4,0;p33333;p00000;l3;", 1, 0, 4, 3);
        steps("t3,0;p1;p1;", 0, 1, 1, 0);
        steps("t3,0;p0;p0;", 0, 1, 1, 1);
        // 12 to 21 by 11 or 22.
        steps("t3,0;t3,0;p12;p21;", 0, 1, 1, 4);
        steps("t3,0;t3,0;p12;p21;", 1, 0, 1, 4);
    }

    private static void stepsByTwo() {
        steps("t2,0;t2,0;p00;p11;p01;l1;", 0, 1, 0, UnlikeGate.NONE);
        steps("t2,0;t2,0;p00;p11;p01;l1;", 0, 2, UnlikeGate.NONE, UnlikeGate.NONE);
        steps("t2,0;t2,0;p00;p11;p01;l1;", 2, 2, 1, 2);
        // 00 to 01: 00, 1x, 01 with x neither 0 nor 1; the first is 12.
        steps("t2,0;t3,0;p00;p01;l1;", 0, 1, 1, 5);
        steps("t3,0;t2,0;p00;p10;l1;", 0, 1, 1, 5);
        // 000 to 001 of two values each: what is turned is even, so never.
        steps("t2,0;t2,0;t2,0;p000;p001;p111;l1;", 0, 1, UnlikeGate.NONE, UnlikeGate.NONE);
        steps("t2,0;t2,0;t2,0;t2,0;p0000;p1111;l1;", 0, 1, 1, 3);
        steps("t4,0;p0;p1;l1;", 0, 1, UnlikeGate.NONE, UnlikeGate.NONE);
    }

    private static void stepsByTurns() {
        steps("t3,0;p0;p1;l2;", 0, 0, UnlikeGate.NONE, UnlikeGate.NONE);
        steps("t3,0;p0;p1;l2;", 0, 1, 0, UnlikeGate.NONE);
        steps("t2,0;t2,0;p00;p11;l2;", 0, 0, 3, 1);
        steps("t2,0;t2,0;p00;p11;l2;", 0, 1, 1, 1);
        steps("t2,0;t2,0;p00;p11;l2;", 1, 0, 1, 1);
        steps("t2,0;t2,0;p00;p11;l2;", 1, 1, 3, 1);
        // One thing that alone can be turned besides is of one value: nothing else to turn between.
        steps("t2,0;t1,0;p00;p10;l2;", 0, 0, UnlikeGate.NONE, UnlikeGate.NONE);
    }

    private static void stepsUnseen() {
        // Things not seen are 0 in the least code, whatever the two have.
        steps("t2,0;t3,0;t2,0;p021;p121;g5;", 0, 1, 0, UnlikeGate.NONE);
        steps("t2,0;t3,0;t2,0;p021;p120;g5;", 0, 1, 1, 0);
        steps("t2,0;t3,0;t2,0;p121;p020;g5;", 0, 1, 1, 1);
        steps("t2,0;p0;p1;g0;", 0, 1, UnlikeGate.NONE, UnlikeGate.NONE);
        steps("t2,0;p0;p1;g0;l3;", 0, 1, 0, UnlikeGate.NONE);
    }

    private static void badOfTwo() {
        UnlikeGate gate = Check.laid(THREE);
        for (int i : BAD_PERSONS) {
            CHECK.same("between(" + i + ", 0, 0)", gate.between(i, 0, 0), UnlikeGate.BAD);
            CHECK.same("between(0, " + i + ", 0)", gate.between(0, i, 0), UnlikeGate.BAD);
            CHECK.same("nearest(" + i + ", 0)", gate.nearest(i, 0), UnlikeGate.BAD);
            CHECK.same("nearest(0, " + i + ")", gate.nearest(0, i), UnlikeGate.BAD);
            CHECK.same("steps(" + i + ", 0, 0)", gate.steps(i, 0, 0), UnlikeGate.BAD);
            CHECK.same("steps(0, " + i + ", 1)", gate.steps(0, i, 1), UnlikeGate.BAD);
        }
        int[] bad = {-1, 13, Integer.MIN_VALUE, Integer.MAX_VALUE};
        for (int n : bad) {
            CHECK.same("between(0, 1, " + n + ")", gate.between(0, 1, n), UnlikeGate.BAD);
            CHECK.same("steps(0, 1, " + n + ")", gate.steps(0, 1, n), UnlikeGate.BAD);
        }
        CHECK.same("steps(0, 1, 2)", gate.steps(0, 1, 2), UnlikeGate.BAD);
    }

    private static void lent(String text, String row, int due, int... codes) {
        UnlikeGate gate = Check.laid(text);
        for (int k = 0; k < row.length(); k++) {
            gate.add(row.charAt(k) - '0');
        }
        CHECK.same("lent(-1) of " + row + " by " + text, gate.lent(-1), due);
        for (int k = 0; k < row.length(); k++) {
            int code = due == UnlikeGate.NONE ? UnlikeGate.NONE : codes[k];
            CHECK.same("lent(" + k + ") of " + row + " by " + text, gate.lent(k), code);
        }
        CHECK.same("lent beyond", gate.lent(row.length()), UnlikeGate.BAD);
    }

    private static void lent() {
        lent(THREE, "", 0);
        lent(THREE, "2", 0, 3);
        lent(THREE, "012", 0, 0, 1, 3);
        lent(THREE, "02", UnlikeGate.NONE);
        String hat = "t2,0;t2,1;p00;p01;p11;";
        lent(hat, "02", 1, 0, 2);
        lent(hat, "20", 1, 2, 0);
        lent(hat, "00", 1, 0, 1);
        lent(hat, "000", 1, 0, 1, 0);
        lent(hat, "0000", 2, 0, 1, 0, 1);
        lent(hat, "022", 1, 0, 2, 3);
        lent("t1,1;t2,0;p00;p01;", "00", UnlikeGate.NONE);
    }

    private static final String TWO_HATS = "t3,1;t2,0;t4,1;p000;p213;p100;";

    private static void lentOfTwoThings() {
        lent(TWO_HATS, "01", 2, 0, 4);
        lent(TWO_HATS, "00", 1, 0, 1);
        lent(TWO_HATS, "11", 1, 7, 23);
        lent(TWO_HATS, "111", 1, 23, 7, 23);
        lent(TWO_HATS + "g6;", "00", 1, 0, 1);
        lent(TWO_HATS + "g6;", "01", 1, 0, 20);
        lent(TWO_HATS + "g2;", "01", 0, 0, 23);
        lent(TWO_HATS + "g2;", "00", UnlikeGate.NONE);
    }

    private static void lentLongRow() {
        int[] codes = {0, 1, 0, 1, 0, 1, 0, 1, 0, 1, 0, 1, 0, 1, 0, 1};
        lent("t4,1;t4,1;p00;", "0000000000000000", 8, codes);
        lent("t4,1;t4,1;p00;l3;", "0000000000000000", 0, new int[16]);
        int[] fives = {0, 5, 0, 5, 0, 5, 0, 5, 0, 5, 0, 5, 0, 5, 0, 5};
        lent("t4,1;t4,1;p00;l1;", "0000000000000000", 16, fives);
    }

    private static void lentByOtherLaws() {
        // TURNS is as ONE: the same thing twice running does not matter.
        lent("t2,0;t2,1;p00;p01;p11;l2;", "000", 1, 0, 1, 0);
        lent("t2,0;t2,1;p00;p01;p11;l2;", "0101", 0, 0, 1, 0, 1);
        lent("t2,1;t2,0;p00;l2;", "000", 1, 0, 2, 0);
        lent(TWO_HATS + "l1;", "00", 2, 0, 9);
        lent(TWO_HATS + "l1;", "01", 1, 0, 7);
        lent(TWO_HATS + "l3;", "00", 0, 0, 0);
        lent(TWO_HATS + "l3;", "01", 2, 0, 4);
        lent(TWO_HATS + "l3;", "02", 0, 0, 8);
    }

    private static void lentBad() {
        UnlikeGate gate = Check.laid(TWO_HATS);
        int[] bad = {-2, 0, 1, 15, 16, Integer.MIN_VALUE, Integer.MAX_VALUE};
        for (int i : bad) {
            CHECK.same("no row, lent(" + i + ")", gate.lent(i), UnlikeGate.BAD);
        }
        gate.add(0);
        CHECK.same("lent(0)", gate.lent(0), 0);
        CHECK.same("lent(1)", gate.lent(1), UnlikeGate.BAD);
        CHECK.same("lent(-2)", gate.lent(-2), UnlikeGate.BAD);
        gate.add(0);
        gate.noRow();
        CHECK.same("no row again", gate.lent(0), UnlikeGate.BAD);
        CHECK.same("no row again", gate.lent(-1), 0);
    }

    private static int mustSeeOf(String text) {
        return Check.laid(text).mustSee();
    }

    private static void mustSee() {
        CHECK.same("path", mustSeeOf(THREE), 3);
        CHECK.same("whatever he sees", mustSeeOf(THREE + "g0;"), 3);
        CHECK.same("TURNS as ONE", mustSeeOf(THREE + "l2;"), 3);
        CHECK.same("TURNS as ONE, thing 0", mustSeeOf("t2,0;t2,0;p00;p10;l2;"), 1);
        CHECK.same("TURNS as ONE, thing 1", mustSeeOf("t2,0;t2,0;p00;p01;l2;"), 2);
        CHECK.same("one person", mustSeeOf("t2,0;t2,0;p01;l3;"), 0);
        CHECK.same("one thing of three", mustSeeOf("t2,0;t2,0;t2,0;p000;p001;"), 4);
        CHECK.same("unlike in two, by ONE", mustSeeOf("t2,0;t2,0;t2,0;p000;p110;"), 0);
        CHECK.same("unlike in two, by ONE OR NONE", mustSeeOf("t2,0;t2,0;t2,0;p000;p110;l3;"), 3);
        CHECK.same("unlike in two, by TWO", mustSeeOf("t2,0;t2,0;t2,0;p000;p011;l1;"), 6);
        CHECK.same("alike", mustSeeOf("t2,0;t2,0;p01;p01;l3;"), 0);
        CHECK.same("alike by ONE", mustSeeOf("t2,0;t2,0;p01;p01;"), 0);
    }

    private static void mustSeeFewest() {
        CHECK.same("of several the lowest", mustSeeOf("t2,0;t2,0;t2,0;t2,0;p0011;p1100;l3;"), 3);
        // 7 would do too, but 17 are fewer.
        CHECK.same("fewest ahead of lowest",
            mustSeeOf("t3,0;t2,0;t2,0;t1,0;t3,0;p00000;p11001;p20102;l3;"), 17);
        CHECK.same("all five", mustSeeOf("t2,0;t2,0;t2,0;t2,0;t2,0;p00000;p00001;p00011;p00111;p01111;p11111;"), 31);
    }

    private static void crowd() {
        // Drawn: 1, 41487 and 10299 modulo 3, so 1, 0, 0.
        UnlikeGate gate = new UnlikeGate();
        int[] passed = {1, 2, 2};
        int[] last = {1, 0, 0};
        for (int n = 1; n <= 3; n++) {
            CHECK.same("crowd(0, " + n + ", 0)", gate.crowd(0, n, 0), passed[n - 1]);
            CHECK.same("crowd(0, " + n + ", 1)", gate.crowd(0, n, 1), last[n - 1]);
        }
        CHECK.same("by ONE OR NONE", Check.laid(THREE + "l3;").crowd(0, 3, 0), 3);
        CHECK.same("one alone", Check.laid("t2,0;p0;").crowd(7, 60, 0), 1);
        CHECK.same("one alone", Check.laid("t2,0;p0;l3;").crowd(7, 60, 0), 60);
        CHECK.same("by TURNS no third", Check.laid(TRIANGLE + "l2;").crowd(9999, 60, 0), 2);
        gate.goIn(2);
        CHECK.same("whoever passed the gate", gate.crowd(0, 2, 0), 2);
        CHECK.same("the gate stays", gate.last(), 2);
        CHECK.same("the gate stays", gate.count(2), 1);
    }

    private static void crowdBad() {
        UnlikeGate gate = new UnlikeGate();
        int[] badDraws = {-1, 10000, Integer.MIN_VALUE, Integer.MAX_VALUE};
        for (int z : badDraws) {
            CHECK.same("crowd(" + z + ", 1, 0)", gate.crowd(z, 1, 0), UnlikeGate.BAD);
        }
        int[] badNumbers = {0, -1, 61, Integer.MIN_VALUE, Integer.MAX_VALUE};
        for (int n : badNumbers) {
            CHECK.same("crowd(0, " + n + ", 0)", gate.crowd(0, n, 0), UnlikeGate.BAD);
        }
        int[] badWhats = {-1, 2, Integer.MIN_VALUE, Integer.MAX_VALUE};
        for (int what : badWhats) {
            CHECK.same("crowd(0, 1, " + what + ")", gate.crowd(0, 1, what), UnlikeGate.BAD);
        }
        CHECK.holds("crowd(9999, 60, 0)", gate.crowd(9999, 60, 0) > 0);
    }

    private static void count() {
        UnlikeGate gate = Check.laid("t2,0;t3,0;t4,0;t1,0;p0000;p0000;l3;g10;");
        gate.goIn(0);
        gate.goIn(1);
        gate.goOut(1);
        gate.keep();
        gate.keep();
        for (int k = 0; k < 5; k++) {
            gate.add(1);
        }
        int[] due = {2, 4, 1, 5, 3, 2, 39, 3, 10};
        for (int what = 0; what < due.length; what++) {
            CHECK.same("count(" + what + ")", gate.count(what), due[what]);
        }
        int[] bad = {-1, 9, Integer.MIN_VALUE, Integer.MAX_VALUE};
        for (int what : bad) {
            CHECK.same("count(" + what + ")", gate.count(what), UnlikeGate.BAD);
        }
    }
}
