/** The edges of promises 1 to 7: a new object, write, wipe, fault, lay, person, differ. */
public final class GatesEdgesTest {
    private static final int BAD = Edges.BAD, NO = Edges.NO, FULL = Edges.FULL, NONE = Edges.NONE;
    private static final int[] BAD_LENGTHS = {0, -1, -8, 9, 16, 300, Edges.LEAST, Edges.MOST};
    /** 300 bytes without a fault. */
    private static final String WHOLE = "t1,0;p0;" + Edges.times(96, "l0;") + "l00;";
    private static final String FIVE = "t4,0;t3,0;t2,0;t1,0;t4,0;";

    public static void main(String[] args) {
        Edges.run(GatesEdgesTest.class);
    }

    // ---- 1

    @Says("at first t2,0;t2,1;p00;p01;p11;")
    static void promise01_atFirst_threePersonsOfTwoThings() {
        UnlikeGate gate = new UnlikeGate();
        Edges.is("persons", gate.count(0), 3);
        Edges.is("things", gate.count(1), 2);
        int[] codes = {0, 1, 3};
        for (int i = 0; i < 3; i++) {
            Edges.is("code", gate.person(i, -1), codes[i]);
        }
        Edges.is("no fourth one", gate.person(3, -1), BAD);
        Edges.is("no third thing", gate.person(0, 2), BAD);
    }

    @Says("at first t2,0;t2,1;p00;p01;p11;")
    static void promise01_atFirst_thing1AloneCanBeBorrowed() {
        UnlikeGate gate = new UnlikeGate();
        Edges.addAll(gate, "02");
        Edges.is("lent", gate.lent(-1), 1);
        Edges.is("the second one has 10; with thing 0 it would be 01", gate.lent(1), 2);
    }

    @Says({"(0 without; the last one)", "(31 without; the last one)"})
    static void promise01_atFirst_theLawIsOneAndTheGuardSeesAll() {
        UnlikeGate gate = new UnlikeGate();
        Edges.is("law", gate.count(7), 0);
        Edges.is("guard", gate.count(8), 3);
    }

    @Says("THE GATE: all are outside at first.")
    static void promise01_atFirst_allAreOutsideAndEachMay() {
        UnlikeGate gate = new UnlikeGate();
        for (int i = 0; i < 3; i++) {
            Edges.is("in", gate.person(i, -2), 0);
        }
        Edges.may("nobody passed", gate, "111");
        Edges.is("last", gate.last(), NONE);
        Edges.is("in", gate.count(2), 0);
    }

    @Says("`UnlikeGate()`: As told.")
    static void promise01_atFirst_noTextNoRowNothingUndoneNothingKept() {
        UnlikeGate gate = new UnlikeGate();
        Edges.counts("new", gate, 3, 2, 0, 0, 0, 0, 0, 0, 3);
        Edges.is("undo", gate.undo(), NO);
        Edges.is("back", gate.back(), NO);
        Edges.is("judge", gate.judge(), NONE);
        Edges.is("noRow", gate.noRow(), 0);
        Edges.is("fault", gate.fault(), NONE);
        Edges.is("lay", gate.lay(), NO);
        Edges.is("wipe", gate.wipe(), 0);
    }

    @Says("An object is used for at most 512 calls after it has been made; what later calls answer is free.")
    static void promise01_each512Calls_areAnsweredAsTheFirst() {
        UnlikeGate gate = new UnlikeGate();
        for (int calls = 0; calls < 504; calls += 7) {
            Edges.is("goIn", gate.goIn(0), 1);
            Edges.is("undo", gate.undo(), 0);
            Edges.is("write", gate.write(8, -1L), 8);
            Edges.is("wipe", gate.wipe(), 8);
            Edges.is("longest", gate.longest(7, -1), 3);
            Edges.is("between", gate.between(0, 2, 11), 32);
            Edges.is("steps", gate.steps(0, 2, 1), 1);
        }
        Edges.counts("up to the 512th call", gate, 3, 2, 0, 0, 0, 0, 0, 0);
    }

    @Says("`UnlikeGate()`: As told.")
    static void promise01_twoObjects_haveNothingInCommon() {
        UnlikeGate one = new UnlikeGate();
        UnlikeGate other = Edges.busy();
        other.longest(63, -1);
        other.lent(-1);
        Edges.counts("the one", one, 3, 2, 0, 0, 0, 0, 0, 0, 3);
        Edges.is("the one's longest", one.longest(7, -1), 3);
        one.goIn(2);
        Edges.counts("the other", other, 6, 3, 3, 4, 3, 1, 9, 2, 7);
        Edges.is("the other's last", other.last(), 2);
    }

    // ---- 2

    @Says("n bytes (1 to 8) of v")
    static void promise02_nOf1To8_areSoManyBytes() {
        for (int n = 1; n <= 8; n++) {
            UnlikeGate gate = new UnlikeGate();
            Edges.is("write(" + n + ")", gate.write(n, -1L), n);
            Edges.is("count(6)", gate.count(6), n);
            Edges.is("write(" + n + ") behind it", gate.write(n, 0L), 2 * n);
        }
    }

    @Says({"n bytes (1 to 8) of v", "BAD: a number is none that is told"})
    static void promise02_nBelow1OrAbove8_isBad() {
        for (int n : BAD_LENGTHS) {
            Edges.refused("write(" + n + ")", Edges::busy, gate -> gate.write(n, 0x6C303B6C303B6C3BL), BAD);
        }
    }

    @Says("n bytes (1 to 8) of v, the highest first, come behind THE TEXT")
    static void promise02_theHighestByteComesFirst() {
        UnlikeGate gate = new UnlikeGate();
        Edges.is("t4,0;p3;", gate.write(8, 0x74342C303B70333BL), 8);
        Edges.is("p2;", gate.write(3, 0x70323BL), 11);
        Edges.is("p", gate.write(1, 0x70L), 12);
        Edges.is("1;", gate.write(2, 0x313BL), 14);
        Edges.is("lay", gate.lay(), 3);
        for (int i = 0; i < 3; i++) {
            Edges.is("value", gate.person(i, 0), 3 - i);
        }
    }

    @Says("n bytes (1 to 8) of v, the highest first, come behind THE TEXT")
    static void promise02_whatIsAboveTheNBytes_countsNot() {
        String text = "t3,0;p2;p1;";
        for (int n = 1; n <= 7; n++) {
            UnlikeGate gate = new UnlikeGate();
            for (int at = 0; at < text.length(); at += n) {
                int now = Math.min(n, text.length() - at);
                long v = -1L;
                for (int k = 0; k < now; k++) {
                    v = v << 8 | text.charAt(at + k);
                }
                Edges.is("write", gate.write(now, v), at + now);
            }
            Edges.is("fault, by " + n, gate.fault(), NONE);
            Edges.is("lay, by " + n, gate.lay(), 2);
            Edges.is("value, by " + n, gate.person(1, 0), 1);
        }
    }

    @Says("A TEXT is bytes (300 at most)")
    static void promise02_bytesOf0And128To255_areBytesToo() {
        int[] bytes = {0, 1, 127, 128, 176, 187, 240, 244, 255};
        for (int b : bytes) {
            UnlikeGate gate = new UnlikeGate();
            Check.write(gate, "t2,0;");
            Edges.is("write(1, " + b + ")", gate.write(1, b), 6);
            Edges.is("fault of " + b, gate.fault(), 5);
            Edges.is("write(1, ;)", gate.write(1, ';'), 7);
            Edges.is("fault of " + b, gate.fault(), 5);
        }
    }

    private static UnlikeGate filled(int bytes) {
        UnlikeGate gate = new UnlikeGate();
        Check.write(gate, WHOLE.substring(0, bytes));
        return gate;
    }

    @Says("A TEXT is bytes (300 at most)")
    static void promise02_the300thByte_isWritten() {
        for (int n = 1; n <= 8; n++) {
            UnlikeGate gate = filled(300 - n);
            Edges.is("write(" + n + ") to 300", gate.write(n, 0x78L), 300);
            Edges.is("count(6)", gate.count(6), 300);
            Edges.is("wipe", gate.wipe(), 300);
        }
    }

    @Says({"A TEXT is bytes (300 at most)", "BAD; FULL.", "FULL. Of several the first; nothing changes then."})
    static void promise02_the301stByte_isFull() {
        for (int n = 1; n <= 8; n++) {
            int bytes = n;
            Edges.refused("write(" + n + ") to 301", () -> filled(301 - bytes), gate -> gate.write(bytes, -1L), FULL);
            Edges.refused("write(" + n + ") of 300", () -> filled(300), gate -> gate.write(bytes, -1L), FULL);
        }
    }

    @Says({"BAD; FULL.", "nothing changes then."})
    static void promise02_behindFull_whatFitsIsWritten() {
        UnlikeGate gate = filled(296);
        Edges.is("write(8)", gate.write(8, -1L), FULL);
        Edges.is("write(5)", gate.write(5, -1L), FULL);
        Edges.is("write(4)", gate.write(4, 0x6C30303BL), 300);
        Edges.is("fault", gate.fault(), NONE);
        Edges.is("lay", gate.lay(), 1);
    }

    @Says("Of several the first; nothing changes then.")
    static void promise02_badAheadOfFull_isBad() {
        for (int n : BAD_LENGTHS) {
            Edges.refused("write(" + n + ") of 300", () -> filled(300), gate -> gate.write(n, -1L), BAD);
        }
    }

    @Says("come behind THE TEXT: how long it is.")
    static void promise02_written_changesTheTextAlone() {
        Edges.changesOnly(View.TEXT, "write", Edges::busy, gate -> gate.write(8, 0x74312C303B70303BL));
    }

    // ---- 3

    @Says("THE TEXT is empty: how long it was.")
    static void promise03_emptyText_was0() {
        UnlikeGate gate = new UnlikeGate();
        Edges.is("wipe", gate.wipe(), 0);
        Edges.is("wipe again", gate.wipe(), 0);
        Edges.is("count(6)", gate.count(6), 0);
    }

    @Says({"THE TEXT is empty: how long it was.", "(300 at most)"})
    static void promise03_fullText_was300AndHasRoomAgain() {
        UnlikeGate gate = filled(300);
        Edges.is("wipe", gate.wipe(), 300);
        Edges.is("count(6)", gate.count(6), 0);
        Edges.is("fault", gate.fault(), NONE);
        for (int k = 1; k <= 37; k++) {
            Edges.is("write", gate.write(8, -1L), 8 * k);
        }
        Edges.is("write to 304", gate.write(8, -1L), FULL);
        Edges.is("wipe", gate.wipe(), 296);
    }

    @Says("THE TEXT is empty: how long it was.")
    static void promise03_behindAWipe_theOldBytesAreGone() {
        UnlikeGate gate = new UnlikeGate();
        Check.write(gate, "t2,0;p1;p0;x");
        Edges.is("wipe", gate.wipe(), 12);
        Edges.is("lay", gate.lay(), NO);
        Check.write(gate, "t3,0;");
        Edges.is("fault", gate.fault(), NONE);
        Edges.is("lay of a thing alone", gate.lay(), NO);
        Check.write(gate, "p2;");
        Edges.is("lay", gate.lay(), 1);
    }

    @Says("THE TEXT is empty: how long it was.")
    static void promise03_wiped_changesTheTextAlone() {
        Edges.changesOnly(View.TEXT, "wipe", Edges::busy, UnlikeGate::wipe);
    }

    // ---- 4

    private static void fault(String text, int due) {
        UnlikeGate gate = new UnlikeGate();
        Check.write(gate, text);
        Edges.is("fault of " + text, gate.fault(), due);
        if (due != NONE) {
            Edges.is("lay of " + text, gate.lay(), NO);
        }
    }

    private static void faultIf(String text, boolean fine, int place) {
        fault(text, fine ? NONE : place);
    }

    @Says("FAULT. NONE.")
    static void promise04_emptyText_isNone() {
        fault("", NONE);
    }

    @Says({"(300 at most)", "FAULT. NONE."})
    static void promise04_300BytesWithoutFault_isNone() {
        Edges.is("bytes", WHOLE.length(), 300);
        fault(WHOLE, NONE);
        Edges.is("persons", Check.laid(WHOLE).count(0), 1);
    }

    @Says("FAULT: the place of the first byte of the first ITEM that is not so.")
    static void promise04_faultInTheLastBytesOf300_isAtItsPlace() {
        fault("t1,0;p0;" + Edges.times(97, "l0;") + ";", 299);
        fault("t1,0;p0;" + Edges.times(97, "l0;") + "l", 299);
        fault(WHOLE.substring(0, 299), 296);
        fault(WHOLE.substring(0, 299) + "0", 296);
    }

    @Says("the place of the first byte of the first ITEM that is not so.")
    static void promise04_ofSeveralFaults_isTheFirst() {
        fault("x;y;", 0);
        fault("t2,0;x;y;", 5);
        fault("t2,0;t5,0;p0;t2,0;p2", 5);
        fault("t2,0;t2,0;p000;p2;l4;", 10);
        fault("l3;l4;g32;", 3);
    }

    @Says({"and ; (behind the last one, too)", "the place of the first byte"})
    static void promise04_itemWithoutItsEnd_isAtItsFirstByte() {
        String text = "t4,1;t2,00;g31;p31;l02;p00;";
        for (int n = 0; n <= text.length(); n++) {
            String part = text.substring(0, n);
            int end = part.lastIndexOf(';') + 1;
            fault(part, end == n ? NONE : end);
        }
    }

    /** What may stand in each place of t3,1;p2;l3;g9; and where the fault is, if another byte does. */
    private static final String PLACES = "t3,1;p2;l3;g9;";
    private static final String[] FINE = {"t", "34", ",", "01", ";", "plg", "012", ";", "lg", "0123", ";", "g",
        "0123456789", ";"};
    private static final int[] STARTS = {0, 0, 0, 0, 0, 5, 5, 5, 8, 8, 8, 11, 11, 11};

    @Says({"ITEMS one behind the other, each a letter, numbers (one or two figures) parted by , and ;",
        "S is one to five figures instead"})
    static void promise04_eachByteInEachPlace_isSoOrNot() {
        for (int at = 0; at < PLACES.length(); at++) {
            for (int b = 0; b < 256; b++) {
                String text = PLACES.substring(0, at) + (char) b + PLACES.substring(at + 1);
                boolean fine = FINE[at].indexOf(b) >= 0;
                // With one or two values alone the thing is fine, but value 2 is none.
                boolean fewValues = at == 1 && (b == '1' || b == '2');
                faultIf(text, fine, fewValues ? 5 : STARTS[at]);
            }
        }
    }

    @Says({"numbers (one or two figures)", "tN,B a THING has N (1 to 4) VALUES", "can be BORROWED or not (B 1, 0;"})
    static void promise04_numbersOfAThing_oneOrTwoFiguresAndInBounds() {
        for (int n = 0; n < 100; n++) {
            String two = n < 10 ? "0" + n : "" + n;
            faultIf("t" + two + ",0;", n >= 1 && n <= 4, 0);
            faultIf("t" + n + ",0;", n >= 1 && n <= 4, 0);
            faultIf("t2," + two + ";", n <= 1, 0);
            faultIf("t2," + n + ";", n <= 1, 0);
        }
        for (String text : new String[] {"t001,0;", "t,0;", "t2,;", "t2,000;", "t2,001;", "t;", "t2;", "t2,0,0;", "t2,0,;"}) {
            fault(text, 0);
        }
    }

    @Says({"lK the LAW: 0 ONE, 1 TWO, 2 TURNS, 3 ONE OR NONE", "gG the GUARD sees the THINGS G (bits; 0 to 31;"})
    static void promise04_numbersOfLawAndGuard_oneOrTwoFiguresAndInBounds() {
        for (int n = 0; n < 100; n++) {
            String two = n < 10 ? "0" + n : "" + n;
            faultIf("l" + two + ";", n <= 3, 0);
            faultIf("l" + n + ";", n <= 3, 0);
            faultIf("g" + two + ";", n <= 31, 0);
            faultIf("g" + n + ";", n <= 31, 0);
        }
        for (String text : new String[] {"l;", "l000;", "l003;", "l0,;", "l0,0;", "g;", "g000;", "g031;", "g1,;", "g1,1;"}) {
            fault(text, 0);
        }
    }

    @Says("5 at most, 0, 1, .., none behind a PERSON")
    static void promise04_theSixthThing_isAFault() {
        for (int n = 1; n <= 7; n++) {
            faultIf(Edges.times(n, "t2,0;"), n <= 5, 25);
        }
        fault(Edges.times(5, "t2,0;") + "l0;t2,0;", 28);
    }

    @Says("5 at most, 0, 1, .., none behind a PERSON")
    static void promise04_aThingBehindAPerson_isAFault() {
        fault("t2,0;p0;t2,0;", 8);
        fault("t2,0;p0;l1;g1;t2,0;", 14);
        fault("t2,0;l1;g1;t2,0;p00;", NONE);
    }

    @Says("(B 1, 0; two can at most)")
    static void promise04_theThirdThingToBeBorrowed_isAFault() {
        for (int borrowed = 0; borrowed < 32; borrowed++) {
            StringBuilder text = new StringBuilder();
            int place = NONE;
            int so = 0;
            for (int t = 0; t < 5; t++) {
                so += borrowed >> t & 1;
                place = so == 3 && place == NONE ? 5 * t : place;
                text.append("t4,").append(borrowed >> t & 1).append(';');
            }
            fault(text.toString(), place);
        }
        fault("t1,1;t1,1;t1,1;", 10);
    }

    @Says("pS a PERSON with the VALUES S, one of each THING told ahead, in turn")
    static void promise04_aPersonOfMoreOrFewerValuesThanThings_isAFault() {
        for (int things = 0; things <= 5; things++) {
            for (int figures = 0; figures <= 7; figures++) {
                String text = Edges.times(things, "t2,0;") + "p" + Edges.times(figures, "0") + ";";
                faultIf(text, figures == things && things > 0, 5 * things);
            }
        }
    }

    @Says({"0 to N less 1", "one of each THING told ahead, in turn"})
    static void promise04_aValueOfNOrMore_isAFault() {
        for (int n = 1; n <= 4; n++) {
            for (int value = 0; value <= 9; value++) {
                faultIf("t" + n + ",0;p" + value + ";", value < n, 5);
            }
        }
        int[] values = {4, 3, 2, 1, 4};
        for (int t = 0; t < 5; t++) {
            for (int value = 0; value <= 9; value++) {
                String person = "p" + Edges.times(t, "0") + value + Edges.times(4 - t, "0") + ";";
                faultIf(FIVE + person, value < values[t], 25);
            }
        }
    }

    @Says("9 at most, 0, 1, ..")
    static void promise04_theTenthPerson_isAFault() {
        for (int n = 1; n <= 11; n++) {
            faultIf("t2,0;" + Edges.times(n, "p1;"), n <= 9, 32);
        }
        fault("t2,0;" + Edges.times(9, "p1;") + "l3;g1;p0;", 38);
    }

    @Says("FAULT. NONE.")
    static void promise04_asked_changesNothing() {
        Edges.onlyAsks("fault", Edges::busy, UnlikeGate::fault);
        Edges.onlyAsks("fault", () -> Edges.busyWith("t4,1;t4,1;p33;l1;g1;"), UnlikeGate::fault);
    }

    // ---- 5

    @Says({"LAID is a TEXT without FAULT, of a THING and a PERSON at least (NO else;", "NO: not as things stand.",
        "nothing UNDONE, KEPT. NO.", "nothing changes then."})
    static void promise05_withoutAPerson_isNo() {
        for (String text : new String[] {"", "t2,0;", "t4,1;t4,1;l1;g0;", "l3;g0;", "l1;"}) {
            Edges.refused("lay of " + text, () -> Edges.busyWith(text), UnlikeGate::lay, NO);
        }
    }

    @Says({"LAID is a TEXT without FAULT", "nothing changes then."})
    static void promise05_withAFault_isNo() {
        for (String text : new String[] {"x", "t2,0;p1;p2;", "t2,0;p1", "p1;t2,0;", "t2,0;p1;l4;", "t5,0;p1;"}) {
            Edges.refused("lay of " + text, () -> Edges.busyWith(text), UnlikeGate::lay, NO);
        }
    }

    @Says("of a THING and a PERSON at least")
    static void promise05_oneThingAndOnePerson_areLaid() {
        UnlikeGate gate = Edges.busyWith("t1,0;p0;");
        Edges.is("lay", gate.lay(), 1);
        Edges.counts("laid", gate, 1, 1, 0, 0, 0, 0, 8, 0, 1);
        Edges.is("value", gate.person(0, 0), 0);
        Edges.is("no second one", gate.person(1, 0), BAD);
        Edges.is("no second thing", gate.person(0, 1), BAD);
    }

    @Says({"5 at most", "9 at most", "LAID: how many PERSONS"})
    static void promise05_fiveThingsAndNinePersons_areLaid() {
        UnlikeGate gate = Edges.busyWith(Edges.times(2, "t4,1;") + Edges.times(3, "t4,0;")
            + Edges.times(8, "p33333;") + "p01230;");
        Edges.is("lay", gate.lay(), 9);
        Edges.counts("laid", gate, 9, 5, 0, 0, 0, 0, 88, 0, 31);
        Edges.is("the last one", gate.person(8, -1), ((1 * 4 + 2) * 4 + 3) * 4);
        Edges.is("the last one's last thing", gate.person(8, 4), 0);
    }

    @Says("all outside, nobody PASSED, no ROW, nothing UNDONE, KEPT.")
    static void promise05_behindALay_allIsAsAtFirst() {
        UnlikeGate gate = Edges.busyWith("t2,1;t3,0;t2,1;p000;p001;p011;p111;p121;p021;l2;g31;");
        Edges.counts("ahead", gate, 6, 3, 3, 4, 3, 1, 52, 2, 7);
        Edges.is("lay", gate.lay(), 6);
        Edges.counts("behind", gate, 6, 3, 0, 0, 0, 0, 52, 2, 7);
        for (int i = 0; i < 6; i++) {
            Edges.is("outside", gate.person(i, -2), 0);
        }
        Edges.may("nobody passed", gate, "111111");
        Edges.is("last", gate.last(), NONE);
        Edges.is("judge", gate.judge(), NONE);
        Edges.is("undo", gate.undo(), NO);
        Edges.is("back", gate.back(), NO);
        Edges.is("keep", gate.keep(), 1);
        Edges.is("add", gate.add(0), 1);
        Edges.is("goIn", gate.goIn(0), 1);
        Edges.is("undo", gate.undo(), 0);
    }

    @Says("LAID: how many PERSONS; all outside")
    static void promise05_behindALay_theTextStaysAndCanBeLaidAgain() {
        UnlikeGate gate = Check.laid("t2,0;p1;");
        Edges.is("count(6)", gate.count(6), 8);
        gate.goIn(0);
        Edges.is("lay again", gate.lay(), 1);
        Edges.is("outside", gate.count(2), 0);
        Check.write(gate, "p0;");
        Edges.is("not laid yet", gate.count(0), 1);
        Edges.is("lay of more", gate.lay(), 2);
        Edges.is("wipe", gate.wipe(), 11);
        Edges.is("laid still", gate.count(0), 2);
    }

    @Says({"(0 without; the last one)", "(31 without; the last one)"})
    static void promise05_ofSeveralLawsAndGuards_theLastOneIsLaid() {
        UnlikeGate gate = Check.laid("l3;g1;t2,0;l1;t2,0;g0;p00;l2;g2;");
        Edges.is("law", gate.count(7), 2);
        Edges.is("guard", gate.count(8), 2);
        gate.wipe();
        Check.write(gate, "t2,0;t2,0;p00;");
        // More than once, whatever was told ahead.
        for (int k = 0; k < 3; k++) {
            Edges.is("lay", gate.lay(), 1);
            Edges.is("law without", gate.count(7), 0);
            Edges.is("guard without", gate.count(8), 3);
        }
    }

    @Says("those that are not there count not")
    static void promise05_aGuardWhoSeesThingsThatAreNotThere_seesTheOthers() {
        for (int things = 1; things <= 5; things++) {
            for (int guard = 0; guard < 32; guard++) {
                String text = Edges.times(things, "t2,0;") + "p" + Edges.times(things, "0") + ";g" + guard + ";";
                Edges.is("guard of " + text, Check.laid(text).count(8), guard % (1 << things));
            }
        }
        Edges.is("guard told ahead", Check.laid("g30;t2,0;t2,0;p00;").count(8), 2);
    }

    @Says("(some may be alike)")
    static void promise05_alikePersons_areTwoAndGoEachForHimself() {
        UnlikeGate gate = Check.laid("t3,0;t2,0;p21;p20;p21;l3;");
        Edges.is("persons", gate.count(0), 3);
        Edges.is("code of the one", gate.person(0, -1), 5);
        Edges.is("code of the other", gate.person(2, -1), 5);
        Edges.is("they differ in nothing", gate.differ(0, 2, false), 0);
        Edges.is("the one goes in", gate.goIn(0), 1);
        Edges.is("the other is outside", gate.person(2, -2), 0);
        Edges.is("he cannot go out", gate.goOut(2), NO);
        Edges.is("he goes in behind the one", gate.goIn(2), 2);
        Edges.is("last", gate.last(), 2);
        Edges.is("the one goes out", gate.goOut(0), 1);
        Edges.is("the other is in", gate.person(2, -2), 1);
    }

    @Says("LAID: how many PERSONS; all outside")
    static void promise05_behindANo_theTextCanBeMended() {
        UnlikeGate gate = Edges.busyWith("t2,0;p1");
        Edges.is("lay", gate.lay(), NO);
        Edges.is("write ;", gate.write(1, ';'), 8);
        Edges.is("lay", gate.lay(), 1);
        Edges.counts("laid", gate, 1, 1, 0, 0, 0, 0, 8, 0, 1);
    }

    // ---- 6

    @Says("Of a PERSON: his VALUE of a THING; CODE (t = -1)")
    static void promise06_leastAndGreatestValues_areTold() {
        UnlikeGate gate = Check.laid(FIVE + "p00000;p32103;");
        int[] greatest = {3, 2, 1, 0, 3};
        for (int t = 0; t < 5; t++) {
            Edges.is("least", gate.person(0, t), 0);
            Edges.is("greatest", gate.person(1, t), greatest[t]);
        }
    }

    @Says("CODE: the VALUES as figures, that of THING 0 the highest, each to the base of how many VALUES its THING has.")
    static void promise06_codes_areFiguresOfTheThingsBases() {
        UnlikeGate gate = Check.laid(FIVE + "p00000;p32103;p10000;p01000;p00100;p00001;");
        int[] codes = {0, 95, 24, 8, 4, 1};
        for (int i = 0; i < codes.length; i++) {
            Edges.is("code of " + i, gate.person(i, -1), codes[i]);
        }
        gate = Check.laid(Edges.times(5, "t4,0;") + "p33333;p30000;p00003;");
        Edges.is("greatest code", gate.person(0, -1), 1023);
        Edges.is("code", gate.person(1, -1), 768);
        Edges.is("code", gate.person(2, -1), 3);
        Edges.is("of one value", Check.laid("t1,0;p0;").person(0, -1), 0);
    }

    @Says("1 if he is in (t = -2). BAD.")
    static void promise06_inAndOut_is1And0() {
        UnlikeGate gate = Check.laid("t1,0;" + Edges.times(9, "p0;") + "l3;");
        Edges.is("at first", gate.person(8, -2), 0);
        gate.goIn(8);
        Edges.is("in", gate.person(8, -2), 1);
        Edges.is("another", gate.person(0, -2), 0);
        gate.goOut(8);
        Edges.is("out", gate.person(8, -2), 0);
        gate.undo();
        Edges.is("out undone", gate.person(8, -2), 1);
    }

    @Says({"(PERSONS, THINGS: such as there are)", "1 if he is in (t = -2). BAD."})
    static void promise06_aThingThatIsNotThere_isBad() {
        for (int t : new int[] {-3, -4, 3, 4, 5, 31, 32, Edges.LEAST, Edges.MOST}) {
            Edges.refused("person(0, " + t + ")", Edges::busy, gate -> gate.person(0, t), BAD);
            Edges.refused("person(5, " + t + ")", Edges::busy, gate -> gate.person(5, t), BAD);
        }
    }

    @Says({"(PERSONS, THINGS: such as there are)", "1 if he is in (t = -2). BAD."})
    static void promise06_aPersonWhoIsNotThere_isBad() {
        for (int i : new int[] {-1, 6, 8, 9, 31, 32, Edges.LEAST, Edges.MOST}) {
            for (int t = -3; t <= 3; t++) {
                int thing = t;
                Edges.refused("person(" + i + ", " + t + ")", Edges::busy, gate -> gate.person(i, thing), BAD);
            }
        }
        Edges.is("of nine the ninth", Check.laid("t2,0;" + Edges.times(9, "p1;")).person(8, 0), 1);
        Edges.is("of nine the tenth", Check.laid("t2,0;" + Edges.times(9, "p1;")).person(9, 0), BAD);
    }

    @Says("Of a PERSON: his VALUE of a THING")
    static void promise06_asked_changesNothing() {
        for (int t = -2; t <= 2; t++) {
            int thing = t;
            Edges.onlyAsks("person(3, " + t + ")", Edges::busy, gate -> gate.person(3, thing));
        }
    }

    // ---- 7

    @Says("Two DIFFER in the THINGS (bits) of which their VALUES are unlike")
    static void promise07_noneAndAllThings_areBitsOf0To31() {
        UnlikeGate gate = Check.laid(Edges.times(5, "t4,0;") + "p01230;p01230;p12303;p01233;p31230;");
        Edges.is("himself", gate.differ(0, 0, false), 0);
        Edges.is("alike", gate.differ(0, 1, false), 0);
        Edges.is("all", gate.differ(0, 2, false), 31);
        Edges.is("thing 4", gate.differ(0, 3, false), 16);
        Edges.is("thing 0", gate.differ(4, 1, false), 1);
        Edges.is("all, seen", gate.differ(2, 0, true), 31);
    }

    @Says("their VALUES are unlike")
    static void promise07_eachTwoValues_areUnlikeOrAlike() {
        UnlikeGate gate = Check.laid("t1,0;t4,0;p00;p01;p02;p03;");
        for (int i = 0; i < 4; i++) {
            for (int j = 0; j < 4; j++) {
                Edges.is("differ(" + i + ", " + j + ")", gate.differ(i, j, false), i == j ? 0 : 2);
            }
        }
    }

    @Says("that the GUARD sees of it (true), as bits. BAD.")
    static void promise07_seen_isWhatTheGuardSeesOfIt() {
        for (int guard = 0; guard < 32; guard++) {
            UnlikeGate gate = Check.laid(Edges.times(5, "t2,0;") + "p00000;p11111;p10101;g" + guard + ";");
            Edges.is("all, not only seen", gate.differ(0, 1, false), 31);
            Edges.is("all by " + guard, gate.differ(0, 1, true), guard);
            Edges.is("some by " + guard, gate.differ(0, 2, true), guard & 21);
            Edges.is("himself by " + guard, gate.differ(1, 1, true), 0);
        }
    }

    @Says({"(PERSONS, THINGS: such as there are)", "that the GUARD sees of it (true), as bits. BAD."})
    static void promise07_aPersonWhoIsNotThere_isBad() {
        for (int i : new int[] {-1, 6, 9, Edges.LEAST, Edges.MOST}) {
            Edges.refused("differ(" + i + ", 0, true)", Edges::busy, gate -> gate.differ(i, 0, true), BAD);
            Edges.refused("differ(0, " + i + ", false)", Edges::busy, gate -> gate.differ(0, i, false), BAD);
            Edges.refused("differ(" + i + ", " + i + ", false)", Edges::busy, gate -> gate.differ(i, i, false), BAD);
        }
    }

    @Says("THINGS in which two DIFFER (seen = false)")
    static void promise07_asked_changesNothing() {
        Edges.onlyAsks("differ(0, 3, true)", Edges::busy, gate -> gate.differ(0, 3, true));
        Edges.onlyAsks("differ(5, 1, false)", Edges::busy, gate -> gate.differ(5, 1, false));
    }
}
