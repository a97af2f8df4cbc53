/** The edges of promises 13 to 17: add, noRow, judge, longest, proof. */
public final class RowsEdgesTest {
    private static final int BAD = Edges.BAD, FULL = Edges.FULL, NONE = Edges.NONE;
    private static final int[] BAD_PERSONS = {-1, 6, 8, 9, 31, 32, Edges.LEAST, Edges.MOST};
    private static final String CUBE = "t2,0;t2,0;t2,0;";
    /** 000, 001, 011, 111, 001, 110. */
    private static final String SIX = CUBE + "p000;p001;p011;p111;p001;p110;";
    /** Nine, each unlike the one before in one thing, and never in the same twice running. */
    private static final String NINE = Edges.times(5, "t2,0;")
        + "p00000;p00001;p00011;p00111;p01111;p11111;p11110;p11100;p11000;";

    public static void main(String[] args) {
        Edges.run(RowsEdgesTest.class);
    }

    private static UnlikeGate busyWithRow(String row) {
        UnlikeGate gate = Edges.busy();
        gate.noRow();
        Edges.addAll(gate, row);
        return gate;
    }

    // ---- 13

    @Says("A PERSON more in THE ROW: how many. BAD; FULL.")
    static void promise13_aPersonWhoIsNotThere_isBad() {
        for (int i : BAD_PERSONS) {
            Edges.refused("add(" + i + ")", Edges::busy, gate -> gate.add(i), BAD);
        }
        Edges.is("add(8) of nine", Check.laid(NINE).add(8), 1);
        Edges.is("add(9) of nine", Check.laid(NINE).add(9), BAD);
    }

    @Says("THE ROW is of PERSONS (16 at most; the same one may be told again).")
    static void promise13_the16th_isAdded() {
        UnlikeGate gate = Check.laid(SIX);
        for (int k = 1; k <= 16; k++) {
            Edges.is("add", gate.add(5), k);
            Edges.is("count(3)", gate.count(3), k);
        }
    }

    @Says({"(16 at most;", "BAD; FULL."})
    static void promise13_the17th_isFull() {
        for (int i = 0; i < 6; i++) {
            int who = i;
            Edges.refused("add(" + i + ")", () -> busyWithRow("0123012301230123"), gate -> gate.add(who), FULL);
        }
    }

    @Says("Of several the first; nothing changes then.")
    static void promise13_badAheadOfFull_isBad() {
        for (int i : BAD_PERSONS) {
            Edges.refused("add(" + i + ")", () -> busyWithRow("0123012301230123"), gate -> gate.add(i), BAD);
        }
    }

    @Says("A PERSON more in THE ROW: how many.")
    static void promise13_added_changesTheRowAlone() {
        Edges.changesOnly(View.ROW, "add", Edges::busy, gate -> gate.add(4));
    }

    @Says("THE ROW is of PERSONS")
    static void promise13_whoIsInOrMayNot_isAddedAlike() {
        UnlikeGate gate = Check.laid(SIX);
        gate.goIn(0);
        Edges.is("who is in", gate.add(0), 1);
        Edges.is("who may not", gate.add(3), 2);
        Edges.is("himself again", gate.add(3), 3);
    }

    // ---- 14

    @Says("No ROW: how many it had.")
    static void promise14_noRowYet_had0() {
        UnlikeGate gate = new UnlikeGate();
        Edges.is("noRow", gate.noRow(), 0);
        Edges.is("noRow", gate.noRow(), 0);
        gate.add(3);
        Edges.is("noRow behind a refused add", gate.noRow(), 0);
    }

    @Says({"No ROW: how many it had.", "(16 at most;"})
    static void promise14_fullRow_had16AndHasRoomAgain() {
        UnlikeGate gate = Edges.withRow(SIX, "0123012301230123");
        Edges.is("add", gate.add(0), FULL);
        Edges.is("noRow", gate.noRow(), 16);
        Edges.is("count(3)", gate.count(3), 0);
        Edges.is("judge", gate.judge(), NONE);
        Edges.is("lent(-1)", gate.lent(-1), 0);
        Edges.is("lent(0)", gate.lent(0), BAD);
        for (int k = 1; k <= 16; k++) {
            Edges.is("add", gate.add(4), k);
        }
        Edges.is("the old ones are gone", gate.judge(), 1);
    }

    @Says("No ROW: how many it had.")
    static void promise14_noRow_changesTheRowAlone() {
        Edges.changesOnly(View.ROW, "noRow", Edges::busy, UnlikeGate::noRow);
    }

    // ---- 15

    private static void judged(String text, String row, int due) {
        Edges.is("judge of " + row + " by " + text, Edges.withRow(text, row).judge(), due);
    }

    @Says({"JUDGED: the first of it who may not PASS behind the one ahead of him in it", "JUDGED. NONE."})
    static void promise15_emptyRow_isNone() {
        for (int law = 0; law <= 3; law++) {
            judged(SIX + "l" + law + ";", "", NONE);
            judged(SIX + "g0;l" + law + ";", "", NONE);
        }
    }

    @Says("the first one behind nobody; none.")
    static void promise15_rowOfOne_isNone() {
        for (int law = 0; law <= 3; law++) {
            for (int i = 0; i < 6; i++) {
                judged(SIX + "g0;l" + law + ";", "" + i, NONE);
            }
        }
    }

    @Says("the first one behind nobody; none.")
    static void promise15_theFirstOne_isBehindNobodyWhoeverPassedTheGate() {
        for (int i = 0; i < 6; i++) {
            for (int law = 0; law <= 3; law++) {
                UnlikeGate gate = Check.laid(SIX + "l" + law + ";");
                gate.goIn(0);
                gate.goIn(1);
                gate.add(i);
                Edges.is("judge of " + i + " by " + law, gate.judge(), NONE);
            }
        }
    }

    @Says("JUDGED: the first of it who may not PASS behind the one ahead of him in it")
    static void promise15_theSecondAndTheSixteenth_areTheFirstAndLastPlaces() {
        judged(SIX, "02", 1);
        judged(SIX, "0201010101010101", 1);
        judged(SIX, "0101010101010102", 15);
        judged(SIX, "0101010101010101", NONE);
    }

    @Says("JUDGED: the first of it who may not PASS behind the one ahead of him in it")
    static void promise15_ofSeveral_isTheFirst() {
        judged(SIX, "01203", 3);
        judged(SIX, "0123010", 4);
        judged(SIX, "00000", 1);
    }

    @Says("the same one may be told again")
    static void promise15_theSameOneAgain_differsInNothing() {
        judged(SIX, "00", 1);
        judged(SIX + "l1;", "00", 1);
        judged(SIX + "l2;", "00", 1);
        judged(SIX + "l3;", "0000000000000000", NONE);
        judged(SIX, "010", NONE);
        judged(SIX, "14", 1);
        judged(SIX + "l3;", "14", NONE);
    }

    @Says("(if he PASSED behind one)")
    static void promise15_byTurns_theThirdIsTheFirstToBeBarred() {
        judged(SIX + "l2;", "01", NONE);
        judged(SIX + "l2;", "010", 2);
        judged(SIX + "l2;", "104", 2);
        judged(SIX + "l2;", "012", NONE);
        judged(SIX + "l2;", "012353", 5);
    }

    @Says("JUDGED. NONE.")
    static void promise15_asked_changesNothing() {
        Edges.onlyAsks("judge", Edges::busy, UnlikeGate::judge);
        Edges.onlyAsks("judge", () -> busyWithRow("00"), UnlikeGate::judge);
    }

    // ---- 16

    private static void longest(UnlikeGate gate, int set, String due) {
        Edges.is("longest(" + set + ", -1)", gate.longest(set, -1), due.length());
        for (int i = 0; i < due.length(); i++) {
            Edges.is("longest(" + set + ", " + i + ")", gate.longest(set, i), due.charAt(i) - '0');
        }
        Edges.is("longest(" + set + ", " + due.length() + ")", gate.longest(set, due.length()), NONE);
    }

    @Says("LONGEST: how many (i = -1), the i-th. NONE (not so many)")
    static void promise16_emptySet_has0AndNone() {
        for (int law = 0; law <= 3; law++) {
            UnlikeGate gate = Check.laid(SIX + "l" + law + ";");
            longest(gate, 0, "");
            Edges.is("longest(0, 8)", gate.longest(0, 8), NONE);
        }
    }

    @Says("of all rows of them, each once at most")
    static void promise16_setOfOne_hasHimAlone() {
        for (int law = 0; law <= 3; law++) {
            UnlikeGate gate = Check.laid(NINE + "l" + law + ";");
            for (int i = 0; i < 9; i++) {
                longest(gate, 1 << i, "" + i);
            }
        }
        longest(Check.laid("t1,0;p0;"), 1, "0");
    }

    @Says("LONGEST: how many (i = -1), the i-th. NONE (not so many)")
    static void promise16_allNine_areOneRow() {
        longest(Check.laid(NINE), 511, "012345678");
        longest(Check.laid(NINE + "l2;"), 511, "012345678");
        longest(Check.laid("t1,0;" + Edges.times(9, "p0;") + "l3;"), 511, "012345678");
    }

    @Says("LONGEST: how many (i = -1), the i-th. NONE (not so many)")
    static void promise16_iBeyondTheRow_isNone() {
        for (int i : new int[] {3, 4, 5, 6, 8, 9, 15, 16, 31, 32, Edges.MOST}) {
            Edges.refused("longest(7, " + i + ")", Edges::busy, gate -> gate.longest(7, i), NONE);
        }
        for (int i : new int[] {9, 10, Edges.MOST}) {
            Edges.is("of nine, " + i, Check.laid(NINE).longest(511, i), NONE);
        }
    }

    @Says({"LONGEST: how many (i = -1)", "BAD (sets of those there are)."})
    static void promise16_iBelowMinus1_isBad() {
        for (int i : new int[] {-2, -3, -4, Edges.LEAST}) {
            Edges.refused("longest(7, " + i + ")", Edges::busy, gate -> gate.longest(7, i), BAD);
            Edges.refused("longest(0, " + i + ")", Edges::busy, gate -> gate.longest(0, i), BAD);
        }
    }

    @Says("BAD (sets of those there are).")
    static void promise16_aSetWithOneWhoIsNotThere_isBad() {
        for (int set : new int[] {-1, 64, 65, 127, 256, 512, 1 << 30, Edges.LEAST, Edges.LEAST + 1, Edges.MOST}) {
            Edges.refused("longest(" + set + ", -1)", Edges::busy, gate -> gate.longest(set, -1), BAD);
            Edges.refused("longest(" + set + ", 0)", Edges::busy, gate -> gate.longest(set, 0), BAD);
        }
        String person = "p0;";
        for (int n = 1; n <= 9; n++) {
            UnlikeGate gate = Check.laid("t1,0;" + Edges.times(n, person) + "l3;");
            Edges.is("all of " + n, gate.longest((1 << n) - 1, -1), n);
            Edges.is("one beyond " + n, gate.longest(1 << n, -1), BAD);
        }
    }

    @Says("Of several the first; nothing changes then.")
    static void promise16_badAheadOfNone_isBad() {
        for (int set : new int[] {-1, 64, Edges.LEAST, Edges.MOST}) {
            Edges.is("longest(" + set + ", 9)", Check.laid(SIX).longest(set, 9), BAD);
            Edges.is("longest(" + set + ", most)", Check.laid(SIX).longest(set, Edges.MOST), BAD);
        }
    }

    @Says("that of most, of several the first (by the first PERSON, then the second, ..): how many; the i-th.")
    static void promise16_ofSeveral_isTheFirst() {
        // Nobody behind nobody else: of nine rows of one, person 0's, or the least of the set.
        UnlikeGate gate = Check.laid("t2,0;" + Edges.times(9, "p1;"));
        longest(gate, 511, "0");
        longest(gate, 510, "1");
        longest(gate, 384, "7");
        // A square: by each first one two ways round.
        gate = Check.laid("t2,0;t2,0;p11;p00;p10;p01;");
        longest(gate, 15, "0213");
        longest(gate, 14, "213");
        longest(gate, 11, "031");
        // The first person's longest row is shorter than another's: most ahead of first.
        gate = Check.laid("t3,0;t2,0;p21;p00;p10;p11;");
        longest(gate, 7, "12");
        longest(gate, 15, "0321");
        longest(Check.laid("t2,0;t2,0;p11;p00;p01;"), 7, "021");
    }

    @Says("each once at most")
    static void promise16_nobodyTwice() {
        longest(Check.laid("t2,0;p0;p1;"), 3, "01");
        longest(Check.laid("t2,0;p0;p1;p0;"), 7, "012");
        longest(Check.laid("t2,0;p0;p1;p1;p1;"), 15, "102");
        longest(Check.laid("t2,0;p0;l3;"), 1, "0");
    }

    @Says("of which JUDGED is none")
    static void promise16_byTurnsTheThirdIsBarred() {
        longest(Check.laid("t4,0;p0;p1;p2;p3;"), 15, "0123");
        longest(Check.laid("t4,0;p0;p1;p2;p3;l2;"), 15, "01");
        longest(Check.laid("t4,0;p0;p1;p2;p3;l1;"), 15, "0");
        longest(Check.laid("t4,0;p0;p1;p2;p3;l3;g0;"), 15, "0123");
        longest(Check.laid("t4,0;p0;p1;p2;p3;g0;"), 15, "0");
    }

    @Says("LONGEST of a set of PERSONS (bits)")
    static void promise16_behindALay_isOfThoseLaid() {
        UnlikeGate gate = Check.laid("t4,0;p0;p1;p2;p3;");
        longest(gate, 15, "0123");
        Check.write(gate, "l2;");
        longest(gate, 15, "0123");
        gate.lay();
        longest(gate, 15, "01");
        Check.write(gate, "x");
        gate.lay();
        longest(gate, 15, "01");
    }

    @Says("LONGEST: how many (i = -1), the i-th.")
    static void promise16_asked_changesNothing() {
        Edges.onlyAsks("longest(63, -1)", Edges::busy, gate -> gate.longest(63, -1));
        Edges.onlyAsks("longest(63, 1)", Edges::busy, gate -> gate.longest(63, 1));
        Edges.onlyAsks("longest(0, -1)", Edges::busy, gate -> gate.longest(0, -1));
    }

    // ---- 17

    private static void proof(String text, int due) {
        Edges.is("proof of " + text, Check.laid(text).proof(), due);
    }

    @Says("are more than the others by two or more, or fewer by so many; else 0.")
    static void promise17_byNoneOneTwoAndMore() {
        for (int odd = 0; odd <= 9; odd++) {
            for (int even = odd == 0 ? 1 : 0; even <= 9 - odd; even++) {
                String text = "t2,0;t2,0;" + Edges.times(odd, "p01;") + Edges.times(even, "p11;");
                proof(text, Math.abs(odd - even) >= 2 ? 1 : 0);
            }
        }
    }

    @Says({"the PERSONS the sum of whose VALUES is odd", "PROOF: 1, 0."})
    static void promise17_eachSetOfACube_byItsOddAndEven() {
        for (int set = 1; set < 256; set++) {
            StringBuilder text = new StringBuilder(CUBE);
            int more = 0;
            for (int v = 0; v < 8; v++) {
                if ((set >> v & 1) == 1) {
                    text.append('p').append(v >> 2).append(v >> 1 & 1).append(v & 1).append(';');
                    more += Integer.bitCount(v) % 2 == 1 ? 1 : -1;
                }
            }
            UnlikeGate gate = Check.laid(text.toString());
            int due = more >= 2 || more <= -2 ? 1 : 0;
            Edges.is("proof of " + text, gate.proof(), due);
            boolean one = gate.longest((1 << gate.count(0)) - 1, -1) == gate.count(0);
            Edges.holds("all in one row and a proof that they can't: " + text, due == 0 || !one);
        }
    }

    @Says("none of more than two VALUES")
    static void promise17_aThingOfThreeValues_is0() {
        for (int n = 1; n <= 4; n++) {
            proof("t" + n + ",0;p0;p0;", n <= 2 ? 1 : 0);
            proof("t2,0;t2,0;t2,0;t2,0;t" + n + ",0;p10000;p01000;", n <= 2 ? 1 : 0);
            proof("t2,0;t2,0;t" + n + ",0;t2,0;t2,0;p10000;p01000;", n <= 2 ? 1 : 0);
        }
    }

    @Says("PROOF: 1, if by ONE, the GUARD seeing all THINGS")
    static void promise17_byAnotherLaw_is0() {
        for (int law = 0; law <= 3; law++) {
            proof(CUBE + "p000;p000;l" + law + ";", law == 0 ? 1 : 0);
        }
    }

    @Says("1, if by ONE, the GUARD seeing all THINGS")
    static void promise17_aGuardWhoSeesNotAll_is0() {
        for (int guard = 0; guard < 32; guard++) {
            proof(CUBE + "p000;p000;g" + guard + ";", guard % 8 == 7 ? 1 : 0);
            proof("t2,0;t1,0;p00;p00;g" + guard + ";", guard % 4 == 3 ? 1 : 0);
        }
    }

    @Says("PROOF: 1, 0.")
    static void promise17_asked_changesNothing() {
        Edges.onlyAsks("proof", Edges::busy, UnlikeGate::proof);
        Edges.onlyAsks("proof", () -> Check.laid(CUBE + "p000;p000;"), UnlikeGate::proof);
    }
}
