/** Promises 1 to 7: a new object, write, wipe, fault, lay, person, differ. */
public final class GatesTest {
    private static final Check CHECK = new Check();
    private static final String FIVE = "t2,1;t3,0;t1,0;t4,1;t2,0;";

    public static void main(String[] args) {
        newObject();
        write();
        writeBytesInTurn();
        wipe();
        faultsOfForm();
        faultsOfNumbers();
        faultsOfHowMany();
        faultLeavesWhatIsLaid();
        lay();
        layRefused();
        lawAndGuardLaid();
        person();
        differ();
        CHECK.end();
    }

    private static void newObject() {
        UnlikeGate gate = new UnlikeGate();
        int[] due = {3, 2, 0, 0, 0, 0, 0, 0, 3};
        for (int what = 0; what < due.length; what++) {
            CHECK.same("new count(" + what + ")", gate.count(what), due[what]);
        }
        int[][] values = {{0, 0}, {0, 1}, {1, 1}};
        for (int i = 0; i < 3; i++) {
            for (int t = 0; t < 2; t++) {
                CHECK.same("new person(" + i + ", " + t + ")", gate.person(i, t), values[i][t]);
            }
            CHECK.same("new person in", gate.person(i, -2), 0);
        }
        CHECK.same("new last", gate.last(), UnlikeGate.NONE);
        CHECK.same("new undo", gate.undo(), UnlikeGate.NO);
        CHECK.same("new back", gate.back(), UnlikeGate.NO);
        CHECK.same("new fault", gate.fault(), UnlikeGate.NONE);
        CHECK.same("new lay", gate.lay(), UnlikeGate.NO);
        // THING 1 alone can be BORROWED: 00 11 passes by 01 11, not by 10 or 00.
        gate.add(0);
        gate.add(2);
        CHECK.same("new lent", gate.lent(-1), 1);
        CHECK.same("new lent 0", gate.lent(0), 0);
        CHECK.same("new lent 1", gate.lent(1), 2);
    }

    private static void write() {
        UnlikeGate gate = new UnlikeGate();
        int[] bad = {0, -1, 9, Integer.MIN_VALUE, Integer.MAX_VALUE};
        for (int n : bad) {
            CHECK.same("write(" + n + ")", gate.write(n, 0x6C), UnlikeGate.BAD);
        }
        CHECK.same("nothing written", gate.count(6), 0);
        for (int k = 1; k <= 37; k++) {
            CHECK.same("write(8)", gate.write(8, -1L), 8 * k);
        }
        CHECK.same("write 304", gate.write(8, 0), UnlikeGate.FULL);
        CHECK.same("write 301", gate.write(5, 0), UnlikeGate.FULL);
        CHECK.same("not written", gate.count(6), 296);
        CHECK.same("write 300", gate.write(4, 0), 300);
        CHECK.same("write 301", gate.write(1, 0), UnlikeGate.FULL);
        CHECK.same("BAD ahead of FULL", gate.write(0, 0), UnlikeGate.BAD);
        CHECK.same("BAD ahead of FULL", gate.write(9, 0), UnlikeGate.BAD);
        CHECK.same("full", gate.count(6), 300);
    }

    private static void writeBytesInTurn() {
        UnlikeGate gate = new UnlikeGate();
        // Bytes above the n lowest do not count.
        CHECK.same("write t2", gate.write(2, 0x7777777777777432L), 2);
        CHECK.same("write ,0;", gate.write(3, 0xFFFFFFFFFF2C303BL), 5);
        CHECK.same("write p1;l3;g1", gate.write(8, 0x70313B6C333B6731L), 13);
        CHECK.same("write ;", gate.write(1, 0x3BL), 14);
        CHECK.same("fault", gate.fault(), UnlikeGate.NONE);
        CHECK.same("lay", gate.lay(), 1);
        CHECK.same("value", gate.person(0, 0), 1);
        CHECK.same("law", gate.count(7), 3);
        CHECK.same("guard", gate.count(8), 1);
        CHECK.same("the text stays", gate.count(6), 14);
        Check.write(gate, "p0;");
        CHECK.same("more behind it", gate.lay(), 2);
        gate.write(1, 0xFF);
        CHECK.same("a byte of eight bits", gate.fault(), 17);
    }

    private static void wipe() {
        UnlikeGate gate = new UnlikeGate();
        CHECK.same("wipe nothing", gate.wipe(), 0);
        Check.write(gate, "t2,0;p0;q");
        CHECK.same("wipe", gate.wipe(), 9);
        CHECK.same("wiped", gate.count(6), 0);
        CHECK.same("wiped fault", gate.fault(), UnlikeGate.NONE);
        CHECK.same("wipe again", gate.wipe(), 0);
        CHECK.same("wiped, laid still", gate.count(0), 3);
        Check.write(gate, "t1,0;p0;");
        CHECK.same("a new text", gate.lay(), 1);
        for (int k = 0; k < 40; k++) {
            gate.write(8, 0);
        }
        CHECK.same("wipe much", gate.wipe(), 296);
        CHECK.same("room again", gate.write(8, 0), 8);
    }

    private static void fault(String text, int due) {
        UnlikeGate gate = new UnlikeGate();
        Check.write(gate, text);
        CHECK.same("fault of " + text, gate.fault(), due);
        if (due != UnlikeGate.NONE) {
            CHECK.same("lay of " + text, gate.lay(), UnlikeGate.NO);
        }
    }

    private static void faultsOfForm() {
        fault("", UnlikeGate.NONE);
        fault(";", 0);
        fault("t", 0);
        fault("t;", 0);
        fault("t2;", 0);
        fault("t2,;", 0);
        fault("t,1;", 0);
        fault("t2,1", 0);
        fault("t2,1,;", 0);
        fault("t2,1,0;", 0);
        fault("t2;1;", 0);
        fault("T2,1;", 0);
        fault(" t2,1;", 0);
        fault("t2,1; ", 5);
        fault("t2,1;;", 5);
        fault("t2,1;t2,1;x", 10);
        fault("t2,1;p", 5);
        fault("t2,1;p1,;", 5);
        fault("t2,1;p1,0;", 5);
        fault("t2,1;pa;", 5);
        fault("t2,1;p/;", 5);
        fault("t10,1;", 0);
        fault("t2,1;p:;", 5);
        fault("l;", 0);
        fault("g;", 0);
        fault("l1,1;", 0);
        fault("g1,1;", 0);
        fault("l-1;", 0);
        fault("l1;g2;l", 6);
        fault("g1;l2;q1;t9,9;", 6);
        fault("2,1;", 0);
        fault("t:,0;", 0);
        fault("t/,0;", 0);
        fault("l/;", 0);
        fault("g:;", 0);
    }

    private static void faultsOfNumbers() {
        fault("t1,0;t2,0;t3,1;t4,1;", UnlikeGate.NONE);
        fault("t01,01;t04,00;", UnlikeGate.NONE);
        fault("t0,0;", 0);
        fault("t00,0;", 0);
        fault("t5,0;", 0);
        fault("t05,0;", 0);
        fault("t2,2;", 0);
        fault("t2,10;", 0);
        fault("t2,001;", 0);
        fault("t001,0;", 0);
        fault("t12,0;", 0);
        fault("l0;l1;l2;l3;l00;l03;", UnlikeGate.NONE);
        fault("l4;", 0);
        fault("l10;", 0);
        fault("l000;", 0);
        fault("g0;g31;g9;g09;g00;", UnlikeGate.NONE);
        fault("g32;", 0);
        fault("g99;", 0);
        fault("g031;", 0);
        fault("g000;", 0);
        fault(FIVE + "p12031;p00000;", UnlikeGate.NONE);
        fault(FIVE + "p22031;", 25);
        fault(FIVE + "p13031;", 25);
        fault(FIVE + "p12131;", 25);
        fault(FIVE + "p12041;", 25);
        fault(FIVE + "p12032;", 25);
        fault(FIVE + "p1203;", 25);
        fault(FIVE + "p120310;", 25);
        fault(FIVE + "p;", 25);
    }

    private static void faultsOfHowMany() {
        fault("t1,0;t1,0;t1,0;t1,0;t1,0;", UnlikeGate.NONE);
        fault("t1,0;t1,0;t1,0;t1,0;t1,0;t1,0;", 25);
        fault("t2,1;t2,0;t2,1;t2,0;", UnlikeGate.NONE);
        fault("t2,1;t2,0;t2,1;t2,1;", 15);
        fault("t1,1;t1,1;t1,1;", 10);
        fault("p0;", 0);
        fault("p;", 0);
        fault("l0;g1;p0;", 6);
        fault("t2,0;p0;t2,0;", 8);
        fault("t2,0;p0;l1;g1;p1;", UnlikeGate.NONE);
        fault("t2,0;p0;p1;p0;p1;p0;p1;p0;p1;p0;", UnlikeGate.NONE);
        fault("t2,0;p0;p1;p0;p1;p0;p1;p0;p1;p0;p0;", 32);
        fault("t2,0;p0;p1;p0;p1;p0;p1;p0;p1;p0;l1;p0;", 35);
    }

    private static void faultLeavesWhatIsLaid() {
        UnlikeGate gate = Check.laid("t4,0;p3;p1;l3;");
        gate.wipe();
        Check.write(gate, "t2,1;t3,1;p12;l1;g2;");
        CHECK.same("fault", gate.fault(), UnlikeGate.NONE);
        CHECK.same("persons", gate.count(0), 2);
        CHECK.same("things", gate.count(1), 1);
        CHECK.same("law", gate.count(7), 3);
        CHECK.same("guard", gate.count(8), 1);
        CHECK.same("person", gate.person(0, 0), 3);
    }

    private static void lay() {
        UnlikeGate gate = new UnlikeGate();
        gate.goIn(0);
        gate.goIn(1);
        gate.keep();
        gate.add(1);
        Check.write(gate, "t3,0;t2,0;p20;p01;");
        gate.longest(7, -1);
        CHECK.same("lay", gate.lay(), 2);
        int[] due = {2, 2, 0, 0, 0, 0, 18, 0, 3};
        for (int what = 0; what < due.length; what++) {
            CHECK.same("laid count(" + what + ")", gate.count(what), due[what]);
        }
        CHECK.same("nobody passed", gate.last(), UnlikeGate.NONE);
        CHECK.same("each may", gate.may(1), 1);
        CHECK.same("outside", gate.person(0, -2), 0);
        CHECK.same("undo", gate.undo(), UnlikeGate.NO);
        CHECK.same("back", gate.back(), UnlikeGate.NO);
        CHECK.same("longest is anew", gate.longest(3, -1), 1);
        CHECK.same("none beyond", gate.person(2, 0), UnlikeGate.BAD);
        gate.goIn(1);
        CHECK.same("lay again", gate.lay(), 2);
        CHECK.same("all outside", gate.count(2), 0);
    }

    private static void layRefused() {
        String[] texts = {"", "t2,0;", "l1;g1;", "t2,0;t2,0;l2;", "t2,0;p0;p2;", "t2,0;p0;p1"};
        for (String text : texts) {
            UnlikeGate gate = new UnlikeGate();
            gate.goIn(0);
            gate.keep();
            gate.add(2);
            Check.write(gate, text);
            CHECK.same("lay of " + text, gate.lay(), UnlikeGate.NO);
            int[] due = {3, 2, 1, 1, 1, 1, text.length(), 0, 3};
            for (int what = 0; what < due.length; what++) {
                CHECK.same("count(" + what + ") behind " + text, gate.count(what), due[what]);
            }
            CHECK.same("last behind " + text, gate.last(), 0);
        }
    }

    private static void lawAndGuardLaid() {
        UnlikeGate gate = Check.laid("l1;g6;t2,0;t2,0;l2;p00;g29;l3;");
        CHECK.same("the last law", gate.count(7), 3);
        CHECK.same("the last guard, of two things", gate.count(8), 1);
        gate.wipe();
        Check.write(gate, "t2,0;t1,0;t1,0;p000;");
        CHECK.same("lay", gate.lay(), 1);
        CHECK.same("no law is ONE", gate.count(7), 0);
        CHECK.same("no guard sees all", gate.count(8), 7);
        CHECK.same("lay once more", gate.lay(), 1);
        CHECK.same("no law is ONE, whatever it was", gate.count(7), 0);
        CHECK.same("no guard sees all, whatever he saw", gate.count(8), 7);
        CHECK.same("guard ahead of things", Check.laid("g4;t1,0;t1,0;t1,0;p000;").count(8), 4);
    }

    private static void person() {
        UnlikeGate gate = Check.laid(FIVE + "p00000;p12031;p02020;");
        int[] values = {1, 2, 0, 3, 1};
        for (int t = 0; t < 5; t++) {
            CHECK.same("value " + t, gate.person(1, t), values[t]);
            CHECK.same("value " + t, gate.person(0, t), 0);
        }
        // ((((1 * 3 + 2) * 1 + 0) * 4 + 3) * 2 + 1
        CHECK.same("code", gate.person(1, -1), 47);
        CHECK.same("code", gate.person(0, -1), 0);
        CHECK.same("code", gate.person(2, -1), 20);
        CHECK.same("greatest code", Check.laid("t4,0;t4,0;t4,0;t4,0;t4,0;p33333;").person(0, -1), 1023);
        CHECK.same("in", gate.person(1, -2), 0);
        gate.goIn(1);
        CHECK.same("in", gate.person(1, -2), 1);
        CHECK.same("in", gate.person(2, -2), 0);
        int[] badThings = {-3, 5, Integer.MIN_VALUE, Integer.MAX_VALUE};
        for (int t : badThings) {
            CHECK.same("thing " + t, gate.person(0, t), UnlikeGate.BAD);
        }
        int[] badPersons = {-1, 3, 9, Integer.MIN_VALUE, Integer.MAX_VALUE};
        for (int i : badPersons) {
            for (int t = -2; t < 5; t++) {
                CHECK.same("person " + i, gate.person(i, t), UnlikeGate.BAD);
            }
        }
    }

    private static void differ() {
        UnlikeGate gate = Check.laid("t4,0;t4,0;t4,0;t4,0;t4,0;p01230;p01230;p21032;p10203;g13;");
        CHECK.same("alike", gate.differ(0, 1, false), 0);
        CHECK.same("himself", gate.differ(2, 2, false), 0);
        CHECK.same("unlike", gate.differ(0, 2, false), 21);
        CHECK.same("unlike, seen", gate.differ(0, 2, true), 5);
        CHECK.same("both ways", gate.differ(2, 0, false), 21);
        CHECK.same("unlike", gate.differ(0, 3, false), 27);
        CHECK.same("unlike, seen", gate.differ(0, 3, true), 9);
        CHECK.same("all", gate.differ(2, 3, false), 31);
        CHECK.same("all, seen", gate.differ(2, 3, true), 13);
        int[] bad = {-1, 4, Integer.MIN_VALUE, Integer.MAX_VALUE};
        for (int i : bad) {
            CHECK.same("differ(" + i + ", 0)", gate.differ(i, 0, true), UnlikeGate.BAD);
            CHECK.same("differ(0, " + i + ")", gate.differ(0, i, false), UnlikeGate.BAD);
        }
    }
}
