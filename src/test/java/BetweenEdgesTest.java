import java.math.BigInteger;

/** The edges of promises 18 to 26: between, nearest, steps, lent, mustSee, crowd, keep, back, count. */
public final class BetweenEdgesTest {
    private static final int BAD = Edges.BAD, NO = Edges.NO, FULL = Edges.FULL, NONE = Edges.NONE;
    private static final int[] BAD_PERSONS = {-1, 6, 9, 32, Edges.LEAST, Edges.MOST};
    private static final int[] BAD_WHATS = {-1, -2, 2, 3, Edges.LEAST, Edges.MOST};
    private static final String TWO = "t2,0;p0;p1;";
    private static final String SQUARE = "t2,0;t2,0;p00;p01;p11;p10;";
    private static final String NINE_ALIKE = "t1,0;" + Edges.times(9, "p0;");
    /** By TURNS one who comes back to himself must go down a tail, round a square and up again. */
    private static final String TAIL_OF_12 = "t4,0;t3,0;t4,0;p000;p020;p022;p222;p202;p001;p003;p303;p301;l2;";
    private static final String TAIL_OF_13 =
        "t2,0;t3,0;t2,0;t4,0;p0000;p0100;p0101;p0001;p0011;p0211;p0213;p1213;p1013;l2;";

    public static void main(String[] args) {
        Edges.run(BetweenEdgesTest.class);
    }

    // ---- 18

    @Says("how many rows of n (0 to 12) PERSONS")
    static void promise18_n0_isWhetherOneMayPassBehindTheOther() {
        String text = "t2,0;t2,0;p00;p01;p11;p00;";
        int[][] due = {{0, 1, 0, 0}, {0, 0, 1, 0}, {0, 1, 0, 0}, {1, 1, 0, 1}};
        for (int law = 0; law <= 3; law++) {
            UnlikeGate gate = Check.laid(text + "l" + law + ";");
            for (int j = 0; j < 4; j++) {
                Edges.is("between(0, " + j + ", 0) by " + law, gate.between(0, j, 0), due[law][j]);
            }
        }
    }

    @Says("how many rows of n (0 to 12) PERSONS, the same one again as well")
    static void promise18_n12OfNineAlike_isBeyondAnInt() {
        UnlikeGate gate = Check.laid(NINE_ALIKE + "l3;");
        long due = 1;
        for (int n = 0; n <= 12; n++) {
            Edges.is("between(0, 8, " + n + ")", gate.between(0, 8, n), due);
            Edges.is("between(8, 8, " + n + ")", gate.between(8, 8, n), due);
            due *= 9;
        }
        Edges.is("the most", gate.between(1, 2, 12), 282429536481L);
    }

    @Says("BETWEEN. BAD.")
    static void promise18_nBelow0OrAbove12_isBad() {
        for (int n : new int[] {-1, -2, 13, 14, 64, Edges.LEAST, Edges.MOST}) {
            Edges.refused("between(0, 1, " + n + ")", Edges::busy, gate -> gate.between(0, 1, n), BAD);
        }
    }

    @Says("BETWEEN. BAD.")
    static void promise18_aPersonWhoIsNotThere_isBad() {
        for (int i : BAD_PERSONS) {
            Edges.refused("between(" + i + ", 0, 0)", Edges::busy, gate -> gate.between(i, 0, 0), BAD);
            Edges.refused("between(0, " + i + ", 12)", Edges::busy, gate -> gate.between(0, i, 12), BAD);
            Edges.refused("between(" + i + ", " + i + ", 13)", Edges::busy, gate -> gate.between(i, i, 13), BAD);
        }
    }

    @Says("BETWEEN two PERSONS (alike ones, too)")
    static void promise18_alikeOnesAndHimself_areTwoToo() {
        UnlikeGate gate = Check.laid(TWO);
        UnlikeGate alike = Check.laid("t2,0;p0;p0;p1;");
        for (int n = 0; n <= 12; n++) {
            Edges.is("himself, " + n, gate.between(0, 0, n), n % 2);
            Edges.is("the other, " + n, gate.between(1, 0, n), 1 - n % 2);
            // There and back: of each two passes the one to the 0s has two ways.
            Edges.is("alike, " + n, alike.between(0, 1, n), n % 2 == 0 ? 0 : 1L << n / 2);
        }
    }

    @Says("JUDGED is none")
    static void promise18_nobodyCanBeBetween_is0() {
        UnlikeGate gate = Check.laid("t4,0;t4,0;p00;p11;p22;");
        UnlikeGate turns = Check.laid("t4,0;p0;p1;p2;l2;");
        for (int n = 0; n <= 12; n++) {
            Edges.is("between(0, 1, " + n + ")", gate.between(0, 1, n), 0);
            Edges.is("between(2, 2, " + n + ")", gate.between(2, 2, n), 0);
            Edges.is("by TURNS of one thing, " + n, turns.between(0, 2, n), n == 0 ? 1 : 0);
        }
    }

    @Says("there are such that of the first one, this row, the second one, one behind the other, JUDGED is none")
    static void promise18_byTurns_theFirstIsBehindNobody() {
        UnlikeGate gate = Check.laid(SQUARE + "l2;");
        gate.goIn(3);
        gate.goIn(0);
        // 00 passed behind 10 by thing 0, but here he is the first.
        Edges.is("across, both ways", gate.between(0, 2, 1), 2);
        Edges.is("round, both ways", gate.between(0, 0, 3), 2);
        Edges.is("there and back", gate.between(0, 0, 1), 0);
    }

    @Says("BETWEEN. BAD.")
    static void promise18_asked_changesNothing() {
        Edges.onlyAsks("between(0, 5, 12)", Edges::busy, gate -> gate.between(0, 5, 12));
        Edges.onlyAsks("between(4, 4, 0)", Edges::busy, gate -> gate.between(4, 4, 0));
    }

    // ---- 19

    @Says("NEAREST: the least n (0 to 12) of which there is one; none.")
    static void promise19_oneBehindTheOther_is0() {
        Edges.is("by ONE", Check.laid(TWO).nearest(1, 0), 0);
        Edges.is("himself by ONE OR NONE", Check.laid(TWO + "l3;").nearest(0, 0), 0);
        Edges.is("across by TWO", Check.laid(SQUARE + "l1;").nearest(0, 2), 0);
    }

    @Says("NEAREST: the least n (0 to 12) of which there is one; none.")
    static void promise19_12Between_is12() {
        UnlikeGate gate = Check.laid(TAIL_OF_12);
        Edges.is("nearest", gate.nearest(4, 4), 12);
        for (int n = 0; n < 12; n++) {
            Edges.is("between, " + n, gate.between(4, 4, n), 0);
        }
        Edges.holds("between, 12", gate.between(4, 4, 12) > 0);
    }

    @Says({"NEAREST: the least n (0 to 12) of which there is one; none.", "NEAREST. NONE; BAD."})
    static void promise19_13Between_isNone() {
        UnlikeGate gate = Check.laid(TAIL_OF_13);
        Edges.is("nearest", gate.nearest(8, 8), NONE);
        Edges.is("one nearer to the square: two fewer than 13", gate.nearest(7, 7), 11);
        for (int n = 0; n <= 12; n++) {
            Edges.is("between, " + n, gate.between(8, 8, n), 0);
        }
    }

    @Says("NEAREST. NONE; BAD.")
    static void promise19_noWayAtAll_isNone() {
        Edges.refused("alone", () -> Check.laid("t4,0;p2;"), gate -> gate.nearest(0, 0), NONE);
        Edges.refused("apart", () -> Check.laid("t4,0;t4,0;p00;p11;"), gate -> gate.nearest(0, 1), NONE);
        Edges.refused("alike", () -> Check.laid("t4,0;p2;p2;"), gate -> gate.nearest(0, 1), NONE);
        Edges.refused("by TURNS back", () -> Check.laid(TWO + "l2;"), gate -> gate.nearest(0, 0), NONE);
        Edges.refused("nothing seen", () -> Check.laid(TWO + "g0;"), gate -> gate.nearest(0, 1), NONE);
    }

    @Says("NEAREST. NONE; BAD.")
    static void promise19_aPersonWhoIsNotThere_isBad() {
        for (int i : BAD_PERSONS) {
            Edges.refused("nearest(" + i + ", 0)", Edges::busy, gate -> gate.nearest(i, 0), BAD);
            Edges.refused("nearest(0, " + i + ")", Edges::busy, gate -> gate.nearest(0, i), BAD);
            Edges.refused("nearest(" + i + ", " + i + ")", Edges::busy, gate -> gate.nearest(i, i), BAD);
        }
        Edges.is("of nine the ninth", Check.laid(NINE_ALIKE + "l3;").nearest(8, 0), 0);
        Edges.is("of nine the tenth", Check.laid(NINE_ALIKE + "l3;").nearest(9, 0), BAD);
    }

    @Says("NEAREST. NONE; BAD.")
    static void promise19_asked_changesNothing() {
        Edges.onlyAsks("nearest(0, 5)", Edges::busy, gate -> gate.nearest(0, 5));
        Edges.onlyAsks("nearest(3, 3)", Edges::busy, gate -> gate.nearest(3, 3));
    }

    // ---- 20

    private static void steps(String text, int i, int j, int due, int dueFirst) {
        UnlikeGate gate = Check.laid(text);
        Edges.is("steps(" + i + ", " + j + ", 0) of " + text, gate.steps(i, j, 0), due);
        Edges.is("steps(" + i + ", " + j + ", 1) of " + text, gate.steps(i, j, 1), dueFirst);
    }

    @Says("(none, if there are 0)")
    static void promise20_noStrangerWanted_is0AndNone() {
        steps(TWO, 0, 1, 0, NONE);
        steps(TWO + "l3;", 0, 0, 0, NONE);
        steps(SQUARE + "l1;", 0, 2, 0, NONE);
        steps(TWO + "l2;", 1, 0, 0, NONE);
        Edges.refused("steps(0, 1, 1)", () -> Check.laid(TWO), gate -> gate.steps(0, 1, 1), NONE);
    }

    @Says("none (there is no such row)")
    static void promise20_noSuchRow_isNone() {
        steps("t1,0;p0;p0;", 0, 1, NONE, NONE);
        steps(TWO + "l1;", 0, 1, NONE, NONE);
        steps(TWO + "g0;", 0, 1, NONE, NONE);
        steps("t4,0;p0;p1;l2;", 0, 0, NONE, NONE);
        steps("t2,0;t2,0;p00;p01;l1;", 0, 1, NONE, NONE);
        Edges.refused("steps(0, 0, 0)", () -> Check.laid("t1,0;p0;"), gate -> gate.steps(0, 0, 0), NONE);
        Edges.refused("steps(0, 0, 1)", () -> Check.laid("t1,0;p0;"), gate -> gate.steps(0, 0, 1), NONE);
    }

    @Says("STEPS: likewise, but with strangers of any VALUES between them: the fewest")
    static void promise20_unlikeInAllFive_are4() {
        String five = Edges.times(5, "t4,0;") + "p00000;p33333;";
        steps(five, 0, 1, 4, 3);
        steps(five, 1, 0, 4, 255);
        steps(five + "l2;", 0, 1, 4, 3);
        steps(five + "l3;", 1, 0, 4, 255);
        // By TWO: three passes turn five things, so one thing alone twice: 00013 can be the first, 00011 not.
        steps(five + "l1;", 0, 1, 2, 7);
    }

    @Says("the least CODE that the first of so few can have")
    static void promise20_theLeastCode_canBe0AndOfAnyValues() {
        steps("t2,0;p1;", 0, 0, 1, 0);
        steps("t4,0;t4,0;p01;p10;", 0, 1, 1, 0);
        steps("t4,0;t4,0;p01;p10;", 1, 0, 1, 0);
        // 00 to 00 by 01, which nobody of these is.
        steps("t4,0;t4,0;p00;p33;", 0, 0, 1, 1);
        steps("t4,0;t4,0;p33;p00;", 0, 0, 1, 3);
        // By 101 or 110: thing 0 cannot be 0.
        steps("t2,0;t2,0;t2,0;p100;p111;", 0, 1, 1, 5);
        // By 301 or 310.
        steps("t4,0;t2,0;t2,0;p300;p311;", 0, 1, 1, 13);
    }

    @Says("has N (1 to 4) VALUES")
    static void promise20_aThirdValue_isAWayThatTwoHaveNot() {
        // By TWO from 00 to 01: 12, 01; of two values there is none.
        steps("t2,0;t2,0;p00;p01;l1;", 0, 1, NONE, NONE);
        steps("t2,0;t3,0;p00;p01;l1;", 0, 1, 1, 5);
        steps("t2,0;t4,0;p00;p01;l1;", 0, 1, 1, 6);
        steps("t3,0;t2,0;p00;p10;l1;", 0, 1, 1, 5);
    }

    @Says("and not in that in which the one ahead DIFFERED from the one ahead of him")
    static void promise20_byTurns_theSameThingTwiceRunningIsNoWay() {
        steps("t2,0;t2,0;p11;p00;l2;", 0, 1, 1, 1);
        steps("t2,0;t2,0;p11;p00;l2;", 1, 0, 1, 1);
        steps("t2,0;t2,0;p11;p00;l2;", 0, 0, 3, 1);
        steps("t2,0;t2,0;p11;p00;l0;", 0, 0, 1, 1);
        steps("t4,0;p0;l0;", 0, 0, 1, 1);
        steps("t4,0;p0;l2;", 0, 0, NONE, NONE);
    }

    @Says("all that counts, but where told, are those that the GUARD sees.")
    static void promise20_unseenThings_are0InTheLeastCode() {
        // Seen are 1 and 0, 0 and 0: the way is by any value of the others.
        steps("t4,0;t2,0;t4,0;p313;p303;g2;", 0, 1, 0, NONE);
        steps("t4,0;t2,0;t4,0;p313;p313;g2;", 0, 1, 1, 0);
        steps("t4,0;t2,0;t4,0;p303;p303;g2;", 0, 1, 1, 4);
    }

    @Says("STEPS: how many (what = 0), the first's CODE (1). NONE; BAD.")
    static void promise20_whatBelow0OrAbove1_isBad() {
        for (int what : BAD_WHATS) {
            Edges.refused("steps(0, 5, " + what + ")", Edges::busy, gate -> gate.steps(0, 5, what), BAD);
        }
    }

    @Says("STEPS: how many (what = 0), the first's CODE (1). NONE; BAD.")
    static void promise20_aPersonWhoIsNotThere_isBad() {
        for (int i : BAD_PERSONS) {
            Edges.refused("steps(" + i + ", 0, 0)", Edges::busy, gate -> gate.steps(i, 0, 0), BAD);
            Edges.refused("steps(0, " + i + ", 1)", Edges::busy, gate -> gate.steps(0, i, 1), BAD);
            Edges.refused("steps(" + i + ", " + i + ", 2)", Edges::busy, gate -> gate.steps(i, i, 2), BAD);
        }
    }

    @Says("Of several the first; nothing changes then.")
    static void promise20_badAheadOfNone_isBad() {
        for (int what : BAD_WHATS) {
            Edges.is("no such row", Check.laid("t1,0;p0;p0;").steps(0, 1, what), BAD);
            Edges.is("0 strangers", Check.laid(TWO).steps(0, 1, what), BAD);
        }
    }

    @Says("STEPS: how many (what = 0), the first's CODE (1).")
    static void promise20_asked_changesNothing() {
        Edges.onlyAsks("steps(0, 4, 0)", Edges::busy, gate -> gate.steps(0, 4, 0));
        Edges.onlyAsks("steps(0, 4, 1)", Edges::busy, gate -> gate.steps(0, 4, 1));
    }

    // ---- 21

    private static void lent(String text, String row, int due, int... codes) {
        UnlikeGate gate = Edges.withRow(text, row);
        Edges.is("lent(-1) of " + row + " by " + text, gate.lent(-1), due);
        for (int k = 0; k < row.length(); k++) {
            Edges.is("lent(" + k + ") of " + row + " by " + text, gate.lent(k), due == NONE ? NONE : codes[k]);
        }
        Edges.is("lent(" + row.length() + ")", gate.lent(row.length()), BAD);
    }

    @Says("the fewest VALUES that are others, so that JUDGED is none")
    static void promise21_emptyRow_is0() {
        for (int law = 0; law <= 3; law++) {
            lent("t1,0;p0;g0;l" + law + ";", "", 0);
            lent("t4,1;t4,1;p00;l" + law + ";", "", 0);
        }
    }

    @Says("the fewest VALUES that are others, so that JUDGED is none")
    static void promise21_rowOfOne_is0AndHisOwnCode() {
        lent("t4,1;t4,1;p32;", "0", 0, 14);
        lent("t4,0;t4,0;p32;g0;l1;", "0", 0, 14);
    }

    @Says("LENT: how many (i = -1), the i-th's CODE. NONE; BAD (i beyond THE ROW, too).")
    static void promise21_iBelowMinus1_isBad() {
        for (int i : new int[] {-2, -3, -4, -17, Edges.LEAST}) {
            Edges.refused("lent(" + i + ")", Edges::busy, gate -> gate.lent(i), BAD);
            Edges.is("no row, lent(" + i + ")", new UnlikeGate().lent(i), BAD);
        }
    }

    @Says("BAD (i beyond THE ROW, too).")
    static void promise21_iBeyondTheRow_isBad() {
        for (int i : new int[] {4, 5, 15, 16, 17, Edges.MOST}) {
            Edges.refused("lent(" + i + ")", Edges::busy, gate -> gate.lent(i), BAD);
        }
        for (int n = 0; n <= 16; n++) {
            UnlikeGate gate = Edges.withRow("t2,1;p0;", Edges.times(n, "0"));
            Edges.is("lent(" + n + ") of " + n, gate.lent(n), BAD);
            Edges.is("lent(-1) of " + n, gate.lent(-1), n / 2);
            Edges.holds("lent(" + (n - 1) + ") of " + n, n == 0 || gate.lent(n - 1) >= 0);
        }
    }

    @Says("LENT: how many (i = -1), the i-th's CODE. NONE; BAD (i beyond THE ROW, too).")
    static void promise21_noWay_isNone() {
        lent("t2,0;t2,0;p00;p11;", "01", NONE);
        lent("t2,0;p0;", "00", NONE);
        lent("t1,1;t1,1;p00;", "00", NONE);
        lent("t2,1;t2,1;p00;g0;", "00", NONE);
        lent("t4,1;p0;l1;", "00", NONE);
        // Three things that cannot be borrowed are unlike at the end of the row alone.
        lent("t2,1;t2,0;t2,0;p000;p011;", "0000000000000001", NONE);
        Edges.refused("lent(-1)", () -> Edges.withRow("t2,0;p0;", "00"), gate -> gate.lent(-1), NONE);
        Edges.refused("lent(1)", () -> Edges.withRow("t2,0;p0;", "00"), gate -> gate.lent(1), NONE);
    }

    @Says("Of several the first; nothing changes then.")
    static void promise21_badAheadOfNone_isBad() {
        UnlikeGate gate = Edges.withRow("t2,0;p0;", "00");
        for (int i : new int[] {-2, 2, 3, 16, Edges.LEAST, Edges.MOST}) {
            Edges.is("lent(" + i + ")", gate.lent(i), BAD);
        }
    }

    @Says("LENT: each in THE ROW may have another VALUE of each THING that can be BORROWED")
    static void promise21_nothingLent_isTheRowItself() {
        lent(SQUARE, "0123", 0, 0, 1, 3, 2);
        lent("t2,1;t2,1;p00;p01;p11;p10;", "0123012301230123", 0, 0, 1, 3, 2, 0, 1, 3, 2, 0, 1, 3, 2, 0, 1, 3, 2);
    }

    @Says("(each time that he is in it anew)")
    static void promise21_theSameOneAgain_mayHaveOthersEachTime() {
        lent("t4,1;p0;", "000", 1, 0, 1, 0);
        lent("t4,1;t4,1;p00;l1;", "000", 2, 0, 5, 0);
        // 0011 is 0101 or 1010: two change either way, and each of them is once as he was.
        lent("t2,1;p0;p1;", "0011", 2, 0, 1, 0, 1);
    }

    @Says("(B 1, 0; two can at most)")
    static void promise21_twoThingsOfFourValues_are16Ways() {
        // The one in the middle must be as the two round him but in thing 2: fewer than both of these changed.
        for (int a = 0; a < 4; a++) {
            for (int b = 0; b < 4; b++) {
                int code = 2 * (4 * a + b);
                int others = Math.min(a, 1) + Math.min(b, 1);
                lent("t4,1;t4,1;t2,0;p" + a + b + "0;p001;", "010", others, code, code + 1, code);
            }
        }
        lent("t4,1;t4,1;p00;p33;l1;", "01", 0, 0, 15);
        lent("t4,1;t1,0;t4,1;p000;p303;", "01", 1, 0, 3);
        lent("t2,0;t4,1;t2,0;t4,1;p0000;p1303;", "01", 2, 0, 32);
    }

    @Says("by these the CODE of the i-th, of several ways that of the least CODE of the first, then the second, ..; none.")
    static void promise21_ofSeveralWays_isThatOfTheLeastCodes() {
        lent("t4,1;p3;", "00", 1, 0, 3);
        lent("t4,1;p1;", "00", 1, 0, 1);
        lent("t4,1;p0;", "00", 1, 0, 1);
        lent("t4,1;t4,1;p11;", "00", 1, 1, 5);
        lent("t4,1;t4,1;p22;", "000", 1, 10, 2, 10);
    }

    @Says("(TURNS being as ONE)")
    static void promise21_byTurns_theSameThingTwiceRunningIsFine() {
        lent("t2,0;p0;p1;l2;", "0101010101010101", 0, 0, 1, 0, 1, 0, 1, 0, 1, 0, 1, 0, 1, 0, 1, 0, 1);
        lent("t2,0;p0;p1;l2;", "00", NONE);
    }

    @Says("LENT: how many (i = -1), the i-th's CODE.")
    static void promise21_asked_changesNothing() {
        for (int i = -1; i < 4; i++) {
            int at = i;
            Edges.onlyAsks("lent(" + i + ")", Edges::busy, gate -> gate.lent(at));
        }
    }

    // ---- 22

    private static void mustSee(String text, int due) {
        Edges.is("mustSee of " + text, Check.laid(text).mustSee(), due);
    }

    @Says("of all two PERSONS just those could PASS one behind the other who could, if he saw all")
    static void promise22_onePerson_is0() {
        for (int law = 0; law <= 3; law++) {
            mustSee(Edges.times(5, "t4,0;") + "p01230;l" + law + ";", 0);
        }
    }

    @Says("of all two PERSONS just those could PASS one behind the other who could, if he saw all")
    static void promise22_allAlikeOrNobodyWhoCould_is0() {
        mustSee(NINE_ALIKE, 0);
        mustSee(NINE_ALIKE + "l3;", 0);
        mustSee("t2,0;t2,0;p00;p11;", 0);
        mustSee("t2,0;t2,0;p00;p01;l1;", 0);
        mustSee("t2,0;t2,0;p00;p01;l3;", 0);
    }

    @Says("that of fewest, of several the lowest.")
    static void promise22_allFive_is31() {
        String five = Edges.times(5, "t2,0;");
        mustSee(five + "p00000;p00001;p00010;p00100;p01000;p10000;", 31);
        mustSee(five + "p00000;p00001;p00011;p00111;p01111;p11111;", 31);
    }

    @Says("that of fewest, of several the lowest.")
    static void promise22_oneThing_isItsBit() {
        for (int t = 0; t < 5; t++) {
            String other = "p" + Edges.times(t, "0") + "1" + Edges.times(4 - t, "0") + ";";
            mustSee(Edges.times(5, "t2,0;") + "p00000;" + other, 1 << t);
        }
    }

    @Says("that of fewest, of several the lowest.")
    static void promise22_ofSeveral_isTheLowestOfTheFewest() {
        // Unlike in all five: by ONE OR NONE each two will do.
        mustSee(Edges.times(5, "t2,0;") + "p00000;p11111;l3;", 3);
        mustSee(Edges.times(5, "t2,0;") + "p00000;p00111;l3;", 12);
        mustSee("t3,0;t2,0;t2,0;t1,0;t3,0;p00000;p11001;p20102;l3;", 17);
    }

    @Says("if he saw all (TURNS being as ONE)")
    static void promise22_byTurns_isAsByOne() {
        mustSee(SQUARE, 3);
        mustSee(SQUARE + "l2;", 3);
        for (int t = 0; t < 5; t++) {
            String other = "p" + Edges.times(t, "0") + "1" + Edges.times(4 - t, "0") + ";";
            mustSee(Edges.times(5, "t2,0;") + "p00000;" + other + "l2;", 1 << t);
        }
    }

    @Says("MUST SEE: of sets of THINGS (bits) such that, if the GUARD saw these alone")
    static void promise22_whateverTheGuardSees_isTheSame() {
        for (int guard = 0; guard < 32; guard++) {
            mustSee(SQUARE + "g" + guard + ";", 3);
            mustSee("t2,0;t2,0;t2,0;p000;p001;g" + guard + ";", 4);
        }
    }

    @Says("MUST SEE, as bits.")
    static void promise22_asked_changesNothing() {
        Edges.onlyAsks("mustSee", Edges::busy, UnlikeGate::mustSee);
        Edges.onlyAsks("mustSee", () -> Check.laid(SQUARE + "g2;l1;"), UnlikeGate::mustSee);
    }

    // ---- 23

    private static int drawn(int z, int k, int persons) {
        BigInteger x = BigInteger.valueOf(7919).multiply(BigInteger.valueOf(z));
        x = x.add(BigInteger.valueOf(6151).multiply(BigInteger.valueOf(k))).add(BigInteger.ONE);
        return x.multiply(x).mod(BigInteger.valueOf(65521)).mod(BigInteger.valueOf(persons)).intValue();
    }

    @Says({"the k-th (0 first) to come is PERSON ((x times x) modulo 65521) modulo how many there are",
        "x being 7919 z, 6151 k and 1 together"})
    static void promise23_leastAndGreatestDraws_areDrawnRight() {
        for (int persons = 1; persons <= 9; persons++) {
            UnlikeGate gate = Check.laid("t1,0;" + Edges.times(persons, "p0;") + "l3;");
            for (int z : new int[] {0, 1, 9998, 9999}) {
                for (int n = 1; n <= 60; n++) {
                    Edges.is("crowd(" + z + ", " + n + ", 1)", gate.crowd(z, n, 1), drawn(z, n - 1, persons));
                }
            }
        }
    }

    @Says({"A CROWD by z (0 to 9999) of n (1 to 60)", "how many PASS; who was the last."})
    static void promise23_nOf1And60_areSoMany() {
        UnlikeGate gate = Check.laid(NINE_ALIKE + "l3;");
        for (int z : new int[] {0, 9999}) {
            Edges.is("n 1", gate.crowd(z, 1, 0), 1);
            Edges.is("n 60", gate.crowd(z, 60, 0), 60);
        }
    }

    @Says("(the first one behind nobody)")
    static void promise23_theFirstOne_passesWhoeverHeIs() {
        UnlikeGate one = Check.laid("t2,0;p0;");
        UnlikeGate blind = Check.laid(SQUARE + "g0;");
        for (int z = 0; z < 60; z++) {
            Edges.is("alone", one.crowd(z, 60, 0), 1);
            Edges.is("alone, who", one.crowd(z, 60, 1), 0);
            Edges.is("nothing seen", blind.crowd(z, 60, 0), 1);
            Edges.is("nothing seen, who", blind.crowd(z, 60, 1), drawn(z, 0, 4));
        }
    }

    @Says("he PASSES, if he may behind the one of these who PASSED last")
    static void promise23_byTurns_theSameThingTwiceRunningMayNot() {
        UnlikeGate gate = Check.laid("t4,0;p0;p1;p2;p3;l2;");
        UnlikeGate one = Check.laid("t4,0;p0;p1;p2;p3;");
        for (int z = 0; z < 60; z++) {
            Edges.is("by TURNS", gate.crowd(z, 60, 0), changes(z, 2));
            Edges.is("by ONE", one.crowd(z, 60, 0), changes(z, 60));
        }
    }

    /** Of one thing with four values: each who is another one than the last passes, as many as may. */
    private static int changes(int z, int most) {
        int passed = 0;
        int last = -1;
        for (int k = 0; k < 60 && passed < most; k++) {
            int who = drawn(z, k, 4);
            passed += who == last ? 0 : 1;
            last = who;
        }
        return passed;
    }

    @Says({"A CROWD by z (0 to 9999) of n (1 to 60)", "A CROWD: how many PASS (what = 0), the last (1). BAD."})
    static void promise23_zBelow0OrAbove9999_isBad() {
        for (int z : new int[] {-1, -9999, 10000, 65521, Edges.LEAST, Edges.MOST}) {
            Edges.refused("crowd(" + z + ", 1, 0)", Edges::busy, gate -> gate.crowd(z, 1, 0), BAD);
            Edges.refused("crowd(" + z + ", 60, 1)", Edges::busy, gate -> gate.crowd(z, 60, 1), BAD);
        }
    }

    @Says({"A CROWD by z (0 to 9999) of n (1 to 60)", "A CROWD: how many PASS (what = 0), the last (1). BAD."})
    static void promise23_nBelow1OrAbove60_isBad() {
        for (int n : new int[] {0, -1, 61, 62, Edges.LEAST, Edges.MOST}) {
            Edges.refused("crowd(0, " + n + ", 0)", Edges::busy, gate -> gate.crowd(0, n, 0), BAD);
            Edges.refused("crowd(9999, " + n + ", 1)", Edges::busy, gate -> gate.crowd(9999, n, 1), BAD);
        }
    }

    @Says("A CROWD: how many PASS (what = 0), the last (1). BAD.")
    static void promise23_whatBelow0OrAbove1_isBad() {
        for (int what : BAD_WHATS) {
            Edges.refused("crowd(0, 1, " + what + ")", Edges::busy, gate -> gate.crowd(0, 1, what), BAD);
        }
    }

    @Says("the one of these who PASSED last")
    static void promise23_asked_changesNothing() {
        Edges.onlyAsks("crowd(5, 60, 0)", Edges::busy, gate -> gate.crowd(5, 60, 0));
        Edges.onlyAsks("crowd(5, 60, 1)", Edges::busy, gate -> gate.crowd(5, 60, 1));
    }

    @Says("the one of these who PASSED last")
    static void promise23_whoPassedTheGate_countsNot() {
        for (int i = 0; i < 4; i++) {
            UnlikeGate gate = Check.laid(SQUARE + "l2;");
            gate.goIn(i);
            gate.goIn((i + 1) % 4);
            for (int z = 0; z < 9; z++) {
                UnlikeGate fresh = Check.laid(SQUARE + "l2;");
                Edges.is("crowd(" + z + ", 60, 0)", gate.crowd(z, 60, 0), fresh.crowd(z, 60, 0));
                Edges.is("crowd(" + z + ", 1, 1)", gate.crowd(z, 1, 1), drawn(z, 0, 4));
            }
        }
    }

    // ---- 24

    @Says({"KEPT is THE GATE (who is in, who PASSED last, in what he DIFFERED): 2 at most.", "KEPT: how many. FULL."})
    static void promise24_theFirstAndTheSecond_areKept() {
        UnlikeGate gate = new UnlikeGate();
        Edges.is("keep", gate.keep(), 1);
        Edges.is("keep", gate.keep(), 2);
        Edges.is("count(5)", gate.count(5), 2);
    }

    private static UnlikeGate keptTwice() {
        UnlikeGate gate = Edges.busy();
        gate.keep();
        gate.goIn(3);
        return gate;
    }

    @Says({"2 at most.", "KEPT: how many. FULL."})
    static void promise24_theThird_isFull() {
        Edges.refused("keep", BetweenEdgesTest::keptTwice, UnlikeGate::keep, FULL);
        UnlikeGate gate = keptTwice();
        Edges.is("keep", gate.keep(), FULL);
        Edges.is("back to the second, not to what was refused", gate.back(), 1);
        Edges.is("last", gate.last(), 2);
        Edges.is("there is room again", gate.keep(), 2);
    }

    @Says("KEPT is THE GATE")
    static void promise24_kept_changesWhatIsKeptAlone() {
        UnlikeGate gate = Edges.busy();
        gate.keep();
        Edges.counts("kept", gate, 6, 3, 3, 4, 3, 2, 9, 2, 7);
        Edges.is("last", gate.last(), 2);
        Edges.is("undo", gate.undo(), 2);
        Edges.is("last", gate.last(), 1);
        Edges.is("goIn", gate.goIn(2), 3);
    }

    @Says("KEPT is THE GATE")
    static void promise24_nobodyPassed_isKeptToo() {
        UnlikeGate gate = Check.laid(SQUARE);
        gate.keep();
        gate.goIn(0);
        Edges.is("back", gate.back(), 0);
        Edges.is("last", gate.last(), NONE);
        Edges.is("in", gate.count(2), 0);
        Edges.may("each may", gate, "1111");
    }

    // ---- 25

    @Says({"As KEPT last: how many are left; nothing is UNDONE then. NO.", "nothing changes then."})
    static void promise25_nothingKept_isNo() {
        Edges.refused("back of a new one", UnlikeGate::new, UnlikeGate::back, NO);
        Edges.refused("back behind goings", () -> {
            UnlikeGate gate = Check.laid(SQUARE);
            gate.goIn(0);
            gate.goIn(1);
            return gate;
        }, UnlikeGate::back, NO);
        Edges.refused("back behind all that was kept", () -> {
            UnlikeGate gate = Edges.busy();
            gate.back();
            gate.goIn(2);
            return gate;
        }, UnlikeGate::back, NO);
        Edges.refused("back behind lay", () -> {
            UnlikeGate gate = Check.laid(SQUARE);
            gate.keep();
            gate.lay();
            gate.goIn(0);
            return gate;
        }, UnlikeGate::back, NO);
    }

    @Says("As KEPT last: how many are left")
    static void promise25_ofTwo_isTheLastThenTheFirst() {
        UnlikeGate gate = keptTwice();
        Edges.is("back", gate.back(), 1);
        Edges.is("last", gate.last(), 2);
        Edges.is("in", gate.count(2), 3);
        Edges.is("back", gate.back(), 0);
        Edges.is("last", gate.last(), 1);
        Edges.is("in", gate.count(2), 2);
        Edges.is("back", gate.back(), NO);
        Edges.is("as it was", gate.last(), 1);
    }

    @Says("nothing is UNDONE then.")
    static void promise25_behindBack_nothingCanBeUndone() {
        UnlikeGate gate = keptTwice();
        Edges.is("can be", gate.count(4), 4);
        gate.back();
        Edges.is("can be", gate.count(4), 0);
        Edges.is("undo", gate.undo(), NO);
        Edges.is("as kept", gate.last(), 2);
        gate.goIn(3);
        Edges.is("can be", gate.count(4), 1);
        Edges.is("undo", gate.undo(), 0);
        Edges.is("as kept", gate.last(), 2);
    }

    @Says("KEPT is THE GATE (who is in, who PASSED last, in what he DIFFERED)")
    static void promise25_byTurns_inWhatHeDifferedIsBack() {
        UnlikeGate gate = Check.laid(SQUARE + "l2;");
        gate.goIn(0);
        gate.keep();
        gate.goIn(1);
        gate.keep();
        gate.goIn(2);
        gate.goIn(3);
        gate.back();
        Edges.may("behind 00, 01", gate, "0010");
        gate.back();
        Edges.may("behind 00 alone", gate, "0101");
    }

    @Says("As KEPT last")
    static void promise25_back_changesTheGateAlone() {
        UnlikeGate gate = keptTwice();
        gate.back();
        Edges.counts("back", gate, 6, 3, 3, 4, 0, 1, 9, 2, 7);
        Edges.is("the row", gate.judge(), NONE);
        Edges.is("the text", gate.fault(), 8);
    }

    // ---- 26

    @Says("8 what the GUARD sees (bits). BAD.")
    static void promise26_whatBelow0OrAbove8_isBad() {
        for (int what : new int[] {-1, -2, 9, 10, Edges.LEAST, Edges.MOST}) {
            Edges.refused("count(" + what + ")", Edges::busy, gate -> gate.count(what), BAD);
        }
    }

    @Says({"How many: 0 PERSONS, 1 THINGS", "7 the LAW, 8 what the GUARD sees (bits)"})
    static void promise26_fewestAndMostThatCanBeTold() {
        UnlikeGate gate = Check.laid("t1,0;p0;g0;");
        Edges.counts("fewest", gate, 1, 1, 0, 0, 0, 0, 11, 0, 0);
        gate = Check.laid(Edges.times(5, "t1,0;") + Edges.times(9, "p00000;") + "l3;");
        Edges.counts("most", gate, 9, 5, 0, 0, 0, 0, 91, 3, 31);
    }

    @Says({"2 who are in, 3 THE ROW's, 4 that can be UNDONE, 5 KEPT, 6 bytes of THE TEXT"})
    static void promise26_leastAndMostOfWhatComesAndGoes() {
        UnlikeGate gate = Check.laid(NINE_ALIKE + "l3;");
        Edges.counts("least", gate, 9, 1, 0, 0, 0, 0, 35, 3, 1);
        for (int i = 0; i < 9; i++) {
            gate.goIn(i);
        }
        Edges.addAll(gate, "01234567012345670");
        for (int k = 0; k < 3; k++) {
            gate.keep();
        }
        gate.wipe();
        Check.write(gate, Edges.times(300, "x"));
        gate.write(1, 'x');
        Edges.counts("most", gate, 9, 1, 9, 16, 8, 2, 300, 3, 1);
    }

    @Says("How many: 0 PERSONS")
    static void promise26_asked_changesNothing() {
        for (int what = 0; what <= 8; what++) {
            int of = what;
            Edges.onlyAsks("count(" + what + ")", Edges::busy, gate -> gate.count(of));
        }
    }
}
