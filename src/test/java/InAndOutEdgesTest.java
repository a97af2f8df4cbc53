import java.util.ArrayList;
import java.util.List;

/** The edges of promises 8 to 12: may, goIn, goOut, undo, last. */
public final class InAndOutEdgesTest {
    private static final int BAD = Edges.BAD, NO = Edges.NO, NONE = Edges.NONE;
    private static final int[] BAD_PERSONS = {-1, -2, 6, 8, 9, 31, 32, 33, Edges.LEAST, Edges.MOST};
    private static final String FIVE = Edges.times(5, "t2,0;");
    /** Person 0 and those who differ from him in 0, 1, 2, 3, 4, 5 things. */
    private static final String BY_HOW_MANY = FIVE + "p00000;p00000;p10000;p11000;p11100;p11110;p11111;";
    /** Round a square: 00, 01, 11, 10. */
    private static final String SQUARE = "t2,0;t2,0;p00;p01;p11;p10;";
    /** By one who differs in nothing from the other: whoever is in or out may always pass. */
    private static final String NINE_ALIKE = "t1,0;" + Edges.times(9, "p0;") + "l3;";

    public static void main(String[] args) {
        Edges.run(InAndOutEdgesTest.class);
    }

    private static UnlikeGate behind(String text, int first) {
        UnlikeGate gate = Check.laid(text);
        gate.goIn(first);
        return gate;
    }

    // ---- 8

    @Says("Behind nobody each may.")
    static void promise08_behindNobody_eachMay() {
        for (int law = 0; law <= 3; law++) {
            Edges.may("law " + law, Check.laid(BY_HOW_MANY + "l" + law + ";"), "1111111");
            Edges.may("law " + law + ", nothing seen", Check.laid(BY_HOW_MANY + "g0;l" + law + ";"), "1111111");
        }
    }

    @Says("One may PASS behind another one: by ONE, if they DIFFER in just one THING")
    static void promise08_byOne_inNoneOneTwoAndMore() {
        Edges.may("by ONE", behind(BY_HOW_MANY + "l0;", 0), "0010000");
    }

    @Says("by TWO, in just two")
    static void promise08_byTwo_inNoneOneTwoAndMore() {
        Edges.may("by TWO", behind(BY_HOW_MANY + "l1;", 0), "0001000");
    }

    @Says("by TURNS, in just one")
    static void promise08_byTurns_inNoneOneTwoAndMore() {
        Edges.may("by TURNS", behind(BY_HOW_MANY + "l2;", 0), "0010000");
    }

    @Says("by ONE OR NONE, in one at most")
    static void promise08_byOneOrNone_inNoneOneTwoAndMore() {
        Edges.may("by ONE OR NONE", behind(BY_HOW_MANY + "l3;", 0), "1110000");
    }

    @Says({"a gate that lets in whoever differs in just one thing from the one before, in two, never in the same thing twice running",
        "told in a text with the first fault: things with their values, people, what can be borrowed, what the guard sees"})
    static void promise08_toldInAText_theGateLetsInByItsLaw() {
        String told = "t2,0;t2,1;p00;p01;p11;p10;g3;";
        Edges.is("in just one thing", goneIn(told, "0123"), 4);
        Edges.is("in just one thing, not in two", goneIn(told, "02"), NO);
        Edges.is("in two", goneIn(told + "l1;", "02"), 2);
        Edges.is("in two, not in one", goneIn(told + "l1;", "01"), NO);
        Edges.is("never in the same thing twice running", goneIn("t3,0;t2,1;p00;p10;p20;g3;l2;", "012"), NO);
        Edges.is("in one and then the other", goneIn(told + "l2;", "0123"), 4);
        UnlikeGate gate = new UnlikeGate();
        Check.write(gate, told + "p20;");
        Edges.is("with the first fault", gate.fault(), 29);
    }

    /** What the last of these answers who go in, one behind the other. */
    private static int goneIn(String text, String row) {
        UnlikeGate gate = Check.laid(text);
        int answer = NONE;
        for (int k = 0; k < row.length(); k++) {
            answer = gate.goIn(row.charAt(k) - '0');
        }
        return answer;
    }

    @Says("(behind himself, too: he DIFFERS in nothing then)")
    static void promise08_behindHimself_byOneOrNoneAlone() {
        for (int law = 0; law <= 3; law++) {
            Edges.is("law " + law, behind("t2,0;p0;l" + law + ";", 0).may(0), law == 3 ? 1 : 0);
        }
    }

    @Says("and not in that in which the one ahead DIFFERED from the one ahead of him (if he PASSED behind one)")
    static void promise08_byTurns_theFirstOneBarsNothing() {
        for (int first = 0; first < 4; first++) {
            UnlikeGate gate = behind(SQUARE + "l2;", first);
            for (int i = 0; i < 4; i++) {
                Edges.is("may(" + i + ") behind " + first, gate.may(i), (i + first) % 2);
            }
        }
    }

    @Says("and not in that in which the one ahead DIFFERED from the one ahead of him (if he PASSED behind one)")
    static void promise08_byTurns_theSameThingTwiceRunning_mayNot() {
        UnlikeGate gate = behind(SQUARE + "l2;", 0);
        gate.goIn(1);
        Edges.may("behind 00, 01", gate, "0010");
        gate.goIn(2);
        Edges.may("behind 01, 11", gate, "0001");
        gate.goIn(3);
        Edges.may("behind 11, 10", gate, "1000");
        gate.goOut(0);
        Edges.may("behind 10, 00", gate, "0100");
        gate = behind("t4,0;p0;p1;p2;p3;l2;", 3);
        gate.goIn(0);
        Edges.may("of one thing nobody more", gate, "0000");
    }

    @Says("all that counts, but where told, are those that the GUARD sees.")
    static void promise08_whatTheGuardSeesNot_countsNot() {
        Edges.may("thing 0 alone", behind(BY_HOW_MANY + "g1;", 0), "0011111");
        Edges.may("thing 4 alone", behind(BY_HOW_MANY + "g16;", 0), "0000001");
        Edges.may("things 3, 4 by TWO", behind(BY_HOW_MANY + "g24;l1;", 0), "0000001");
        Edges.may("nothing by ONE", behind(BY_HOW_MANY + "g0;", 0), "0000000");
        Edges.may("nothing by TURNS", behind(BY_HOW_MANY + "g0;l2;", 0), "0000000");
        Edges.may("nothing by ONE OR NONE", behind(BY_HOW_MANY + "g0;l3;", 0), "1111111");
        UnlikeGate gate = behind("t2,0;t2,0;t2,0;p000;p011;p001;p111;p101;l2;g5;", 0);
        gate.goIn(1);
        // He differed in things 1 and 2, of which 2 alone is seen.
        Edges.may("by TURNS what is seen alone is barred", gate, "00011");
    }

    @Says("Whether one may PASS now: 1, 0.")
    static void promise08_whoIsInAndWhoIsOutside_mayAlike() {
        UnlikeGate gate = Check.laid(SQUARE);
        gate.goIn(1);
        gate.goIn(0);
        Edges.is("in", gate.may(1), 1);
        Edges.is("outside", gate.may(3), 1);
        gate.goOut(1);
        Edges.may("behind one who went out", gate, "1010");
    }

    @Says("Whether one may PASS now: 1, 0. BAD.")
    static void promise08_aPersonWhoIsNotThere_isBad() {
        for (int i : BAD_PERSONS) {
            Edges.refused("may(" + i + ")", Edges::busy, gate -> gate.may(i), BAD);
            Edges.is("nobody passed, may(" + i + ")", Check.laid(SQUARE).may(i), BAD);
        }
        Edges.is("may(4) of four", Check.laid(SQUARE).may(4), BAD);
        Edges.is("may(8) of nine", Check.laid(NINE_ALIKE).may(8), 1);
        Edges.is("may(9) of nine", Check.laid(NINE_ALIKE).may(9), BAD);
    }

    @Says("Whether one may PASS now: 1, 0.")
    static void promise08_asked_changesNothing() {
        for (int i = 0; i < 6; i++) {
            int who = i;
            Edges.onlyAsks("may(" + i + ")", Edges::busy, gate -> gate.may(who));
        }
    }

    // ---- 9

    @Says("BAD; NO: he is in, may not.")
    static void promise09_aPersonWhoIsNotThere_isBad() {
        for (int i : BAD_PERSONS) {
            Edges.refused("goIn(" + i + ")", Edges::busy, gate -> gate.goIn(i), BAD);
        }
    }

    @Says({"One who is outside goes IN", "BAD; NO: he is in, may not."})
    static void promise09_whoIsIn_isNo() {
        for (int i = 0; i <= 2; i++) {
            int who = i;
            Edges.refused("goIn(" + i + ")", Edges::busy, gate -> gate.goIn(who), NO);
        }
    }

    @Says({"One who is outside goes IN", "BAD; NO: he is in, may not."})
    static void promise09_whoIsInThoughHeMay_isNo() {
        Edges.refused("goIn(0) behind himself", () -> behind(NINE_ALIKE, 0), gate -> gate.goIn(0), NO);
        Edges.refused("goIn(0) behind 1", () -> {
            UnlikeGate gate = behind(SQUARE, 0);
            gate.goIn(1);
            return gate;
        }, gate -> gate.goIn(0), NO);
    }

    @Says({"if he may PASS behind the one who PASSED last, in or out", "BAD; NO: he is in, may not."})
    static void promise09_whoMayNot_isNo() {
        Edges.refused("goIn(4)", Edges::busy, gate -> gate.goIn(4), NO);
        // By ONE he might; by TURNS it is thing 1 twice running.
        Edges.refused("goIn(5)", Edges::busy, gate -> gate.goIn(5), NO);
        Edges.refused("goIn(2) of the square", () -> behind(SQUARE, 0), gate -> gate.goIn(2), NO);
        Edges.refused("goIn(1), alike", () -> behind("t2,0;p0;p0;", 0), gate -> gate.goIn(1), NO);
    }

    @Says("if he may PASS behind the one who PASSED last, in or out")
    static void promise09_whoIsRefused_isNotAheadOfTheNextOne() {
        UnlikeGate gate = behind(SQUARE, 0);
        Edges.is("11 behind 00", gate.goIn(2), NO);
        Edges.is("10 behind 00, not 11", gate.goIn(3), 2);
        Edges.is("11 behind 10", gate.goIn(2), 3);
    }

    @Says({"9 at most", "IN: how many are in."})
    static void promise09_allNine_areIn() {
        UnlikeGate gate = Check.laid(NINE_ALIKE);
        for (int i = 0; i < 9; i++) {
            Edges.is("goIn(" + i + ")", gate.goIn(i), i + 1);
        }
        for (int i = 0; i < 9; i++) {
            Edges.is("goIn(" + i + ") again", gate.goIn(i), NO);
        }
        Edges.is("in", gate.count(2), 9);
        Edges.is("goIn(9)", gate.goIn(9), BAD);
    }

    @Says("Behind nobody each may.")
    static void promise09_theFirstOne_goesInWhoeverHeIs() {
        for (int law = 0; law <= 3; law++) {
            for (int i = 0; i < 7; i++) {
                UnlikeGate gate = Check.laid(BY_HOW_MANY + "g0;l" + law + ";");
                Edges.is("goIn(" + i + ") by " + law, gate.goIn(i), 1);
                Edges.is("last", gate.last(), i);
            }
        }
    }

    // ---- 10

    @Says("BAD; NO: he is not in, may not.")
    static void promise10_aPersonWhoIsNotThere_isBad() {
        for (int i : BAD_PERSONS) {
            Edges.refused("goOut(" + i + ")", Edges::busy, gate -> gate.goOut(i), BAD);
        }
    }

    @Says({"one who is in goes OUT", "BAD; NO: he is not in, may not."})
    static void promise10_whoIsNotIn_isNo() {
        for (int i = 3; i <= 5; i++) {
            int who = i;
            Edges.refused("goOut(" + i + ")", Edges::busy, gate -> gate.goOut(who), NO);
        }
        Edges.refused("goOut(0) of a new one", UnlikeGate::new, gate -> gate.goOut(0), NO);
    }

    @Says({"one who is in goes OUT", "BAD; NO: he is not in, may not."})
    static void promise10_whoIsNotInThoughHeMay_isNo() {
        Edges.refused("goOut(1) behind 0", () -> behind(SQUARE, 0), gate -> gate.goOut(1), NO);
        Edges.refused("goOut(1), alike", () -> behind(NINE_ALIKE, 0), gate -> gate.goOut(1), NO);
        UnlikeGate gate = behind(NINE_ALIKE, 0);
        gate.goOut(0);
        Edges.is("goOut(0) again", gate.goOut(0), NO);
    }

    @Says({"if he may PASS behind the one who PASSED last, in or out", "BAD; NO: he is not in, may not."})
    static void promise10_whoMayNot_isNo() {
        // 0 differs from the last one in two things; 1 in one, but by TURNS in the same as he did.
        for (int i = 0; i <= 1; i++) {
            int who = i;
            Edges.refused("goOut(" + i + ")", Edges::busy, gate -> gate.goOut(who), NO);
        }
    }

    @Says("(behind himself, too: he DIFFERS in nothing then)")
    static void promise10_behindHimself_byOneOrNoneAlone() {
        for (int law = 0; law <= 2; law++) {
            String text = SQUARE + "l" + law + ";";
            Edges.refused("goOut(0) by " + text, () -> behind(text, 0), gate -> gate.goOut(0), NO);
        }
        Edges.is("goOut(0) by ONE OR NONE", behind(SQUARE + "l3;", 0).goOut(0), 0);
    }

    @Says("OUT: how many are in.")
    static void promise10_theLastOneOut_leaves0() {
        UnlikeGate gate = Check.laid(NINE_ALIKE);
        for (int i = 0; i < 9; i++) {
            gate.goIn(i);
        }
        for (int i = 0; i < 9; i++) {
            Edges.is("goOut(" + i + ")", gate.goOut(i), 8 - i);
        }
        Edges.is("in", gate.count(2), 0);
        Edges.is("last", gate.last(), 8);
    }

    @Says("if he may PASS behind the one who PASSED last, in or out")
    static void promise10_whoWentOut_isAheadOfTheNextOne() {
        UnlikeGate gate = behind(SQUARE, 0);
        gate.goIn(1);
        Edges.is("00 goes out behind 01", gate.goOut(0), 1);
        Edges.is("11 behind 00", gate.goIn(2), NO);
        Edges.is("10 behind 00", gate.goIn(3), 2);
        gate = behind(SQUARE + "l2;", 1);
        gate.goIn(0);
        gate.goIn(3);
        gate.goIn(2);
        Edges.is("01 goes out behind 11 by thing 0", gate.goOut(1), 3);
        Edges.is("not 11 again by thing 0", gate.goOut(2), NO);
        Edges.is("00 by thing 1", gate.goOut(0), 2);
    }

    // ---- 11

    @Says("UNDONE: how many more can be. NO.")
    static void promise11_nothingToBeUndone_isNo() {
        Edges.refused("undo of a new one", UnlikeGate::new, UnlikeGate::undo, NO);
        Edges.refused("undo of one just laid", () -> {
            UnlikeGate gate = behind("t2,0;p0;p1;", 0);
            gate.lay();
            return gate;
        }, UnlikeGate::undo, NO);
        Edges.refused("undo behind back", () -> {
            UnlikeGate gate = Edges.busy();
            gate.back();
            return gate;
        }, UnlikeGate::undo, NO);
        Edges.refused("undo when all are", () -> {
            UnlikeGate gate = Edges.busy();
            for (int k = 0; k < 3; k++) {
                gate.undo();
            }
            return gate;
        }, UnlikeGate::undo, NO);
    }

    @Says("UNDONE is the latest of these (the last 8 can be).")
    static void promise11_refusedGoings_areNothingToBeUndone() {
        UnlikeGate gate = Check.laid(SQUARE);
        gate.goOut(0);
        gate.goIn(4);
        gate.goOut(-1);
        Edges.is("undo", gate.undo(), NO);
        gate.goIn(0);
        gate.goIn(2);
        gate.goIn(0);
        Edges.is("can be", gate.count(4), 1);
        Edges.is("undo", gate.undo(), 0);
        Edges.is("in", gate.count(2), 0);
    }

    /** Who is in, who passed last, who may: as one number, to be met again when it is undone. */
    private static long stand(UnlikeGate gate) {
        long all = gate.last() + 4;
        for (int i = 0; i < gate.count(0); i++) {
            all = all << 2 | gate.person(i, -2) << 1 | gate.may(i);
        }
        return all;
    }

    /** Round the square, in at first, then out, then in: by TURNS that is the only way to go on. */
    private static void goRound(UnlikeGate gate, int k) {
        int got = k / 4 % 2 == 0 ? gate.goIn(k % 4) : gate.goOut(k % 4);
        Edges.holds("going " + k + " round", got >= 0);
    }

    @Says("(the last 8 can be)")
    static void promise11_ofManyGoings_theLast8CanBe() {
        for (int goings = 0; goings <= 20; goings++) {
            UnlikeGate gate = Check.laid(SQUARE + "l2;");
            List<Long> stands = new ArrayList<>();
            for (int k = 0; k < goings; k++) {
                stands.add(stand(gate));
                goRound(gate, k);
                Edges.is("can be", gate.count(4), Math.min(8, k + 1));
            }
            int can = Math.min(8, goings);
            for (int k = 1; k <= can; k++) {
                Edges.is("undo " + k + " of " + goings, gate.undo(), can - k);
                Edges.is("as it stood", stand(gate), stands.get(goings - k));
            }
            Edges.is("no more of " + goings, gate.undo(), NO);
            Edges.is("nothing changes", stand(gate), goings == can ? stand(Check.laid(SQUARE + "l2;"))
                : stands.get(goings - can));
        }
    }

    @Says({"UNDONE is the latest of these", "(the last 8 can be)"})
    static void promise11_goingOnBehindSomeUndone_theLast8CanBe() {
        UnlikeGate gate = Check.laid(SQUARE + "l2;");
        for (int k = 0; k < 8; k++) {
            goRound(gate, k);
        }
        for (int k = 0; k < 3; k++) {
            gate.undo();
        }
        for (int k = 5; k < 9; k++) {
            goRound(gate, k);
            Edges.is("can be", gate.count(4), Math.min(8, k + 1));
        }
        for (int k = 7; k >= 0; k--) {
            Edges.is("undo", gate.undo(), k);
        }
        Edges.is("the first one is beyond", gate.last(), 0);
        Edges.is("no more", gate.undo(), NO);
    }

    @Says("UNDONE: how many more can be.")
    static void promise11_theFirstOneUndone_nobodyPassed() {
        for (int law = 0; law <= 3; law++) {
            UnlikeGate gate = behind(BY_HOW_MANY + "l" + law + ";", 4);
            Edges.is("undo", gate.undo(), 0);
            Edges.is("last", gate.last(), NONE);
            Edges.is("in", gate.count(2), 0);
            Edges.may("nobody passed", gate, "1111111");
        }
    }

    @Says("UNDONE is the latest of these")
    static void promise11_undone_changesTheGateAlone() {
        UnlikeGate gate = Edges.busy();
        gate.undo();
        Edges.counts("undone", gate, 6, 3, 2, 4, 2, 1, 9, 2, 7);
        Edges.is("the row stays", gate.judge(), NONE);
        Edges.is("what is kept stays", gate.back(), 0);
        Edges.is("in as kept", gate.count(2), 2);
    }

    @Says("UNDONE is the latest of these")
    static void promise11_otherCalls_areNotUndone() {
        UnlikeGate gate = behind(SQUARE, 0);
        gate.add(1);
        gate.keep();
        gate.write(1, 'x');
        Edges.is("undo", gate.undo(), 0);
        Edges.counts("behind it", gate, 4, 2, 0, 1, 0, 1, SQUARE.length() + 1, 0, 3);
    }

    // ---- 12

    @Says({"Who PASSED last. NONE.", "NONE: there is none."})
    static void promise12_nobodyPassed_isNone() {
        Edges.is("new", new UnlikeGate().last(), NONE);
        Edges.is("laid", Check.laid(SQUARE).last(), NONE);
        UnlikeGate gate = behind(SQUARE, 2);
        gate.lay();
        Edges.is("laid anew", gate.last(), NONE);
        gate = Check.laid(SQUARE);
        gate.keep();
        gate.goIn(0);
        gate.undo();
        Edges.is("undone", gate.last(), NONE);
        gate.goIn(0);
        gate.back();
        Edges.is("back", gate.last(), NONE);
        gate.goIn(9);
        gate.goOut(0);
        Edges.is("refused", gate.last(), NONE);
    }

    @Says("Who PASSED last.")
    static void promise12_thePersons0And8_areLast() {
        UnlikeGate gate = Check.laid(NINE_ALIKE);
        gate.goIn(0);
        Edges.is("0", gate.last(), 0);
        gate.goIn(8);
        Edges.is("8", gate.last(), 8);
        gate.goOut(0);
        Edges.is("0 goes out", gate.last(), 0);
        gate.goIn(0);
        gate.goIn(0);
        gate.goOut(5);
        Edges.is("refused ones are not last", gate.last(), 0);
    }

    @Says("Who PASSED last.")
    static void promise12_rowsAndCrowds_passNotTheGate() {
        UnlikeGate gate = behind(SQUARE, 3);
        Edges.addAll(gate, "0123");
        gate.judge();
        gate.crowd(1, 60, 0);
        gate.longest(15, -1);
        gate.between(0, 1, 12);
        gate.lent(-1);
        Edges.is("last", gate.last(), 3);
        Edges.is("in", gate.count(2), 1);
    }

    @Says("Who PASSED last. NONE.")
    static void promise12_asked_changesNothing() {
        Edges.onlyAsks("last", Edges::busy, UnlikeGate::last);
        Edges.onlyAsks("last of a new one", UnlikeGate::new, UnlikeGate::last);
    }
}
