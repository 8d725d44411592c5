/**
 * The promises of the document one by one, each with answers worked out by hand: ordinary
 * inputs, the edges that the document names, and wrong inputs.
 *
 * Commands are told as texts, the earliest first: A0.5@7 is ACTIVATE of row 5 of bank 0 in cycle
 * 7, P0@7 a PRECHARGE, R0.5#2@7 a READ of column 5 for ticket 2, W0.5#2@7 a WRITE, F@7 a REFRESH.
 */
public final class BankKeeperPromises {
    private static final int RCD = 0, RP = 1, RAS = 2, RC = 3, RRD = 4, FAW = 5, CCD = 6;
    private static final int WR = 7, WTR = 8, RTP = 9, CL = 10, CWL = 11, RFC = 12, REFI = 13;
    private static final long WORD = 0x0123456789ABCDEFL;

    private static int wrong = 0;
    private static String part = "";

    public static void main(String[] args) {
        newObject();
        timing();
        read();
        write();
        cycles();
        activates();
        precharges();
        bursts();
        refreshes();
        pressingRefreshes();
        quickFirst();
        capOnAge();
        draining();
        held();
        flip();
        scrubbing();
        status();
        value();
        state();
        command();
        bit();
        System.out.println(wrong == 0 ? "all promises hold" : wrong + " answers are not as due");
        if (wrong != 0) {
            System.exit(1);
        }
    }

    private static void due(String what, long got, long want) {
        if (got != want) {
            wrong++;
            System.out.println(part + ": " + what + " answered " + got + ", due is " + want);
        }
    }

    private static void due(String what, boolean got, boolean want) {
        due(what, got ? 1 : 0, want ? 1 : 0);
    }

    /** All commands of a keeper that has given at most 32. */
    private static void given(BankKeeper x, String want) {
        StringBuilder text = new StringBuilder();
        for (int k = x.state(5) - 1; k >= 0; k--) {
            text.append(text.length() == 0 ? "" : " ").append(told(x, k));
        }
        if (!want.contentEquals(text)) {
            wrong++;
            System.out.println(part + ": given were " + text + ", due is " + want);
        }
    }

    private static String told(BankKeeper x, int k) {
        int which = x.command(k, 0);
        String cycle = "@" + x.command(k, 3);
        String bank = "" + x.command(k, 1);
        switch (which) {
            case 0: return "A" + bank + "." + x.command(k, 2) + cycle;
            case 1: return "P" + bank + cycle;
            case 2: return "R" + bank + "." + x.command(k, 2) + "#" + x.command(k, 4) + cycle;
            case 3: return "W" + bank + "." + x.command(k, 2) + "#" + x.command(k, 4) + cycle;
            case 4: return "F" + cycle;
            default: return "?" + which;
        }
    }

    private static BankKeeper keeper(int... timings) {
        BankKeeper x = new BankKeeper(8, 300);
        for (int i = 0; i + 1 < timings.length; i += 2) {
            due("timing(" + timings[i] + ", " + timings[i + 1] + ")", x.timing(timings[i], timings[i + 1]), true);
        }
        return x;
    }

    private static void readings(BankKeeper x, int... addresses) {
        for (int address : addresses) {
            x.read(address);
        }
    }

    private static void writings(BankKeeper x, int... addresses) {
        for (int address : addresses) {
            x.write(address, 1000L + address);
        }
    }

    private static void pass(BankKeeper x, int cycles) {
        for (int rest = cycles; rest > 0; rest -= 300) {
            x.cycles(Math.min(rest, 300));
        }
    }

    // ---- promise 1

    private static void newObject() {
        part = "promise 1";
        queueIs(Integer.MIN_VALUE, 2);
        queueIs(1, 2);
        queueIs(2, 2);
        queueIs(5, 5);
        queueIs(8, 8);
        queueIs(9, 8);
        queueIs(Integer.MAX_VALUE, 8);
        // In cycle 7 the first reading's age is 3 in the run of capBites.
        due("cap -5", capBites(-5), true);
        due("cap 0", capBites(0), true);
        due("cap 2", capBites(2), true);
        due("cap 3", capBites(3), false);
        due("cap 300", capBites(300), false);
        due("cap max", capBites(Integer.MAX_VALUE), false);
        lowestCap();
        highestCap();
        firstState();
    }

    private static void queueIs(int queue, int want) {
        BankKeeper x = new BankKeeper(queue, 300);
        for (int i = 0; i < want; i++) {
            due("read " + i + " of queue " + queue, x.read(i), 2 * i);
            due("write " + i + " of queue " + queue, x.write(100 + i, 1L), 2 * i + 1);
        }
        due("read with full queue " + queue, x.read(50), -2);
        due("write with full queue " + queue, x.write(51, 1L), -2);
    }

    /** Whether the older reading of another row goes before the quick one in cycle 7. */
    private static boolean capBites(int cap) {
        BankKeeper x = new BankKeeper(8, cap);
        x.read(0);
        x.cycles(4);
        readings(x, 32, 1);
        x.cycles(4);
        return x.command(0, 0) == 1;
    }

    // With CAP 0 (not less) a reading of age 0 is not alone: the quick one goes first.
    private static void lowestCap() {
        BankKeeper x = new BankKeeper(8, -1);
        x.read(0);
        x.cycles(7);
        readings(x, 32, 1);
        x.cycles(1);
        given(x, "A0.0@0 R0.0#0@3 R0.1#2@7");
    }

    // A reading of row 1 is kept waiting by quick ones of row 0 up to its age 300, and no longer.
    private static void highestCap() {
        for (int cap = 300; cap <= 302; cap++) {
            due("age 300, cap " + cap, kindIn307(cap, 7), 2);
            due("age 301, cap " + cap, kindIn307(cap, 6), 1);
        }
        due("age 300, cap 299", kindIn307(299, 7), 1);
    }

    /** Which command cycle 307 gets, when the reading of row 1 came in cycle came. */
    private static int kindIn307(int cap, int came) {
        BankKeeper x = new BankKeeper(8, cap);
        x.timing(REFI, 400);
        x.read(0);
        x.cycles(came);
        // With two quick ones at first, one of them wants row 0 in every cycle.
        readings(x, 32, 1);
        for (int i = 0; i < 75; i++) {
            x.read(1);
            x.cycles(4);
        }
        x.cycles(307 - x.state(0));
        due("the latest before 307", x.command(0, 3), 303);
        x.cycles(1);
        due("the latest", x.command(0, 3), 307);
        return x.command(0, 0);
    }

    private static void firstState() {
        BankKeeper x = new BankKeeper(4, 20);
        for (int what = 0; what <= 8; what++) {
            due("state " + what, x.state(what), 0);
        }
        for (int bank = 0; bank < 4; bank++) {
            due("row of bank " + bank, x.state(10 + bank), -1);
        }
        due("command(0, 0)", x.command(0, 0), -1);
        due("status(0)", x.status(0), -1);
        for (int place = 0; place < 72; place++) {
            due("bit(255, " + place + ")", x.bit(255, place), 0);
        }
    }

    // ---- promise 2

    private static void timing() {
        part = "promise 2";
        BankKeeper x = new BankKeeper(4, 20);
        for (int which = 0; which <= 12; which++) {
            due(which + " to 1", x.timing(which, 1), true);
            due(which + " to 30", x.timing(which, 30), true);
            due(which + " to 0", x.timing(which, 0), false);
            due(which + " to 31", x.timing(which, 31), false);
            due(which + " to min", x.timing(which, Integer.MIN_VALUE), false);
            due(which + " to 60", x.timing(which, 60), false);
        }
        due("REFI to 60", x.timing(REFI, 60), true);
        due("REFI to 400", x.timing(REFI, 400), true);
        due("REFI to 59", x.timing(REFI, 59), false);
        due("REFI to 401", x.timing(REFI, 401), false);
        due("REFI to 30", x.timing(REFI, 30), false);
        due("REFI to 0", x.timing(REFI, 0), false);
        due("timing -1", x.timing(-1, 5), false);
        due("timing 14", x.timing(14, 5), false);
        due("timing 14 to 100", x.timing(14, 100), false);
        due("timing max", x.timing(Integer.MAX_VALUE, 5), false);
        due("timing min", x.timing(Integer.MIN_VALUE, 5), false);
        x.read(0);
        x.cycles(0);
        x.cycles(-1);
        x.cycles(301);
        due("before a cycle", x.timing(RCD, 5), true);
        due("refused", x.timing(RCD, 31), false);
        x.cycles(1);
        due("behind a cycle", x.timing(RCD, 7), false);
        x.cycles(9);
        given(x, "A0.0@0 R0.0#0@5");
    }

    // ---- promise 3

    private static void read() {
        part = "promise 3";
        BankKeeper x = new BankKeeper(2, 300);
        due("read(-1)", x.read(-1), -1);
        due("read(256)", x.read(256), -1);
        due("read(min)", x.read(Integer.MIN_VALUE), -1);
        due("read(0)", x.read(0), 0);
        due("read(255)", x.read(255), 1);
        due("read(7), full", x.read(7), -2);
        due("read(256), full", x.read(256), -1);
        due("write(7)", x.write(7, 70L), 2);
        due("write(7) again", x.write(7, 71L), 3);
        due("read(7), done at once though full", x.read(7), 4);
        due("status(4)", x.status(4), 2);
        due("value(4), the latest", x.value(4), 71L);
        due("state(1)", x.state(1), 2);
        due("read(8), full", x.read(8), -2);
        x.cycles(300);
        due("all written", x.state(2), 0);
        due("read(7), waits now", x.read(7), 5);
        due("status(5)", x.status(5), 0);
        x.cycles(100);
        due("value(5)", x.value(5), 71L);
        ticketsForReadings();
    }

    private static void ticketsForReadings() {
        BankKeeper x = new BankKeeper(2, 300);
        x.write(0, 5L);
        x.read(1);
        for (int i = 2; i < 400; i++) {
            due("read(0)", x.read(0), i);
        }
        due("tickets", x.state(8), 400);
        due("read(0) at once", x.read(0), -3);
        due("read(2)", x.read(2), -3);
        due("read(-1)", x.read(-1), -1);
        due("value(399)", x.value(399), 5L);
        due("value(400)", x.value(400), 0L);
        due("status(400)", x.status(400), -1);
        BankKeeper y = new BankKeeper(2, 300);
        y.write(0, 5L);
        y.read(1);
        y.read(2);
        for (int i = 3; i < 400; i++) {
            y.read(0);
        }
        due("read(3), full and out", y.read(3), -2);
        due("read(0), out", y.read(0), -3);
    }

    // ---- promise 4

    private static void write() {
        part = "promise 4";
        BankKeeper x = new BankKeeper(2, 300);
        due("write(-1)", x.write(-1, 1L), -1);
        due("write(256)", x.write(256, 1L), -1);
        due("write(max)", x.write(Integer.MAX_VALUE, 1L), -1);
        due("write(0)", x.write(0, Long.MIN_VALUE), 0);
        due("write(255)", x.write(255, -1L), 1);
        due("write(7), full", x.write(7, 1L), -2);
        due("write(256), full", x.write(256, 1L), -1);
        due("state(2)", x.state(2), 2);
        due("read(7)", x.read(7), 2);
        due("state(1)", x.state(1), 1);
        x.cycles(100);
        due("state(2)", x.state(2), 0);
        readings(x, 0, 255);
        x.cycles(100);
        due("value(3)", x.value(3), Long.MIN_VALUE);
        due("value(4)", x.value(4), -1L);
        ticketsForWritings();
    }

    private static void ticketsForWritings() {
        BankKeeper x = new BankKeeper(2, 300);
        x.write(0, 5L);
        for (int i = 1; i < 399; i++) {
            x.read(0);
        }
        due("write, the last ticket", x.write(1, 1L), 399);
        due("write, full and out", x.write(1, 1L), -2);
        x.cycles(100);
        due("write, out", x.write(1, 1L), -3);
        due("write(256), out", x.write(256, 1L), -1);
        due("tickets", x.state(8), 400);
    }

    // ---- promise 5

    private static void cycles() {
        part = "promise 5";
        BankKeeper x = new BankKeeper(4, 20);
        due("cycles(-1)", x.cycles(-1), -1);
        due("cycles(301)", x.cycles(301), -1);
        due("cycles(min)", x.cycles(Integer.MIN_VALUE), -1);
        due("cycles(0)", x.cycles(0), 0);
        due("now", x.state(0), 0);
        x.read(0);
        due("cycles(3)", x.cycles(3), 1);
        due("cycles(1)", x.cycles(1), 1);
        due("now", x.state(0), 4);
        due("cycles(300)", x.cycles(300), 3);
        due("now", x.state(0), 304);
        given(x, "A0.0@0 R0.0#0@3 P0@120 F@123 F@240");
    }

    private static void activates() {
        part = "ACTIVATE";
        BankKeeper x = keeper();
        readings(x, 0, 8);
        x.cycles(50);
        given(x, "A0.0@0 A1.0@2 R0.0#0@3 R1.0#1@7");
        x = keeper(RRD, 5);
        readings(x, 0, 8);
        x.cycles(50);
        given(x, "A0.0@0 R0.0#0@3 A1.0@5 R1.0#1@8");
        x = keeper(RP, 9);
        readings(x, 0, 32);
        x.cycles(50);
        given(x, "A0.0@0 R0.0#0@3 P0@7 A0.1@16 R0.0#1@19");
        x = keeper(RC, 25);
        readings(x, 0, 32);
        x.cycles(50);
        given(x, "A0.0@0 R0.0#0@3 P0@7 A0.1@25 R0.0#1@28");
        x = keeper();
        readings(x, 0, 8, 16, 24, 32);
        x.cycles(50);
        given(x, "A0.0@0 A1.0@2 R0.0#0@3 A2.0@4 A3.0@6 R1.0#1@7 P0@8 R2.0#2@11 A0.1@12 R3.0#3@15 R0.0#4@19");
        x = keeper(FAW, 30);
        readings(x, 0, 8, 16, 24, 32);
        x.cycles(50);
        given(x, "A0.0@0 A1.0@2 R0.0#0@3 A2.0@4 A3.0@6 R1.0#1@7 P0@8 R2.0#2@11 R3.0#3@15 A0.1@30 R0.0#4@33");
        x = keeper(RFC, 30);
        x.cycles(121);
        readings(x, 0);
        x.cycles(50);
        given(x, "F@120 A0.0@150 R0.0#0@153");
    }

    private static void precharges() {
        part = "PRECHARGE";
        BankKeeper x = keeper();
        readings(x, 0, 32);
        x.cycles(50);
        given(x, "A0.0@0 R0.0#0@3 P0@7 A0.1@10 R0.0#1@13");
        x = keeper(RAS, 12);
        readings(x, 0, 32);
        x.cycles(50);
        given(x, "A0.0@0 R0.0#0@3 P0@12 A0.1@15 R0.0#1@18");
        x = keeper(RTP, 20);
        readings(x, 0, 32);
        x.cycles(50);
        given(x, "A0.0@0 R0.0#0@3 P0@23 A0.1@26 R0.0#1@29");
        x = keeper();
        writings(x, 0, 32);
        x.cycles(50);
        given(x, "A0.0@0 W0.0#0@3 P0@14 A0.1@17 W0.0#1@20");
        x = keeper(WR, 1);
        writings(x, 0, 32);
        x.cycles(50);
        given(x, "A0.0@0 W0.0#0@3 P0@11 A0.1@14 W0.0#1@17");
        // What never was bounds nothing: there was no READ.
        x = keeper(RTP, 30);
        writings(x, 0, 32);
        x.cycles(50);
        given(x, "A0.0@0 W0.0#0@3 P0@14 A0.1@17 W0.0#1@20");
        x = keeper(CWL, 5);
        writings(x, 0, 32);
        x.cycles(50);
        given(x, "A0.0@0 W0.0#0@3 P0@16 A0.1@19 W0.0#1@22");
        // The WRITE of another bank bounds this bank's PRECHARGE in no way.
        x = keeper(WR, 30);
        writings(x, 0);
        x.cycles(4);
        readings(x, 8, 40);
        x.cycles(50);
        given(x, "A0.0@0 W0.0#0@3 A1.0@4 R1.0#1@13 P1@16 A1.1@19 R1.0#2@22");
    }

    private static void bursts() {
        part = "READ and WRITE";
        BankKeeper x = keeper(RCD, 6);
        readings(x, 0, 1);
        x.cycles(50);
        given(x, "A0.0@0 R0.0#0@6 R0.1#1@10");
        x = keeper(CCD, 9);
        readings(x, 0, 1);
        x.cycles(50);
        given(x, "A0.0@0 R0.0#0@3 R0.1#1@12");
        x = keeper(CCD, 1);
        readings(x, 0, 1);
        x.cycles(50);
        given(x, "A0.0@0 R0.0#0@3 R0.1#1@7");
        x = keeper(CCD, 1, RCD, 6);
        writings(x, 0, 1);
        x.cycles(50);
        given(x, "A0.0@0 W0.0#0@6 W0.1#1@10");
        x = keeper(CCD, 9);
        writings(x, 0, 1);
        x.cycles(50);
        given(x, "A0.0@0 W0.0#0@3 W0.1#1@12");
        writeBehindRead();
        readBehindWrite();
    }

    private static void writeBehindRead() {
        BankKeeper x = keeper();
        readings(x, 0);
        x.cycles(4);
        writings(x, 1);
        x.cycles(50);
        given(x, "A0.0@0 R0.0#0@3 W0.1#1@9");
        x = keeper(CL, 10);
        readings(x, 0);
        x.cycles(4);
        writings(x, 1);
        x.cycles(50);
        given(x, "A0.0@0 R0.0#0@3 W0.1#1@15");
        x = keeper(CWL, 12);
        readings(x, 0);
        x.cycles(4);
        writings(x, 1);
        x.cycles(50);
        given(x, "A0.0@0 R0.0#0@3 W0.1#1@7");
    }

    private static void readBehindWrite() {
        BankKeeper x = keeper();
        writings(x, 0);
        x.cycles(4);
        readings(x, 1);
        x.cycles(50);
        given(x, "A0.0@0 W0.0#0@3 R0.1#1@13");
        x = keeper(WTR, 9);
        writings(x, 0);
        x.cycles(4);
        readings(x, 1);
        x.cycles(50);
        given(x, "A0.0@0 W0.0#0@3 R0.1#1@19");
        x = keeper(CWL, 6, WTR, 1);
        writings(x, 0);
        x.cycles(4);
        readings(x, 8);
        x.cycles(50);
        given(x, "A0.0@0 W0.0#0@3 A1.0@4 R1.0#1@14");
    }

    private static void refreshes() {
        part = "REFRESH";
        BankKeeper x = keeper();
        due("cycles(120)", x.cycles(120), 0);
        due("owed", x.state(3), 0);
        due("cycles(1)", x.cycles(1), 1);
        due("owed", x.state(3), 0);
        x.cycles(300);
        given(x, "F@120 F@240 F@360");
        x = keeper(REFI, 60);
        x.cycles(300);
        given(x, "F@60 F@120 F@180 F@240");
        x = keeper(REFI, 400);
        pass(x, 801);
        given(x, "F@400 F@800");
        x = keeper(RP, 10);
        readings(x, 0);
        x.cycles(200);
        given(x, "A0.0@0 R0.0#0@3 P0@120 F@130");
        x = keeper();
        readings(x, 24, 8);
        x.cycles(200);
        given(x, "A3.0@0 A1.0@2 R3.0#0@3 R1.0#1@7 P1@120 P3@121 F@124");
        // Bank 0 is the lowest, but its PRECHARGE is not allowed as early as that of bank 1.
        x = keeper(RAS, 30);
        readings(x, 8);
        x.cycles(110);
        readings(x, 0);
        x.cycles(100);
        given(x, "A1.0@0 R1.0#0@3 A0.0@110 R0.0#1@113 P1@120 P0@140 F@143");
        whileSomethingWaits();
    }

    // A refresh that is owed waits until nothing else does; readings whose READ was given do not wait.
    private static void whileSomethingWaits() {
        BankKeeper x = keeper();
        x.cycles(118);
        readings(x, 0, 1);
        x.cycles(8);
        due("owed", x.state(3), 1);
        x.cycles(1);
        given(x, "A0.0@118 R0.0#0@121 R0.1#1@125");
        x.cycles(1);
        due("status(1)", x.status(1), 1);
        x.cycles(100);
        given(x, "A0.0@118 R0.0#0@121 R0.1#1@125 P0@128 F@131");
        due("owed", x.state(3), 0);
    }

    private static void pressingRefreshes() {
        part = "pressing REFRESH";
        BankKeeper x = keeper(RCD, 30, RP, 30, REFI, 60);
        readings(x, 0, 32, 64, 96, 128);
        pass(x, 400);
        given(x, "A0.0@0 R0.0#0@30 P0@33 A0.1@63 R0.0#1@93 P0@96 A0.2@126 R0.0#2@156 P0@159 A0.3@189"
                + " R0.0#3@219 P0@222 A0.4@252 R0.0#4@282 P0@285 F@315 F@327 F@339 F@351 F@363 F@375");
        x = keeper(RCD, 30, RP, 30, REFI, 60);
        readings(x, 0, 32, 64, 96, 128, 160, 192, 224);
        pass(x, 360);
        due("owed", x.state(3), 5);
        x.cycles(1);
        due("owed", x.state(3), 6);
        pass(x, 100);
        due("owed", x.state(3), 5);
        given(x, "A0.0@0 R0.0#0@30 P0@33 A0.1@63 R0.0#1@93 P0@96 A0.2@126 R0.0#2@156 P0@159 A0.3@189"
                + " R0.0#3@219 P0@222 A0.4@252 R0.0#4@282 P0@285 A0.5@315 R0.0#5@345 P0@348 F@378 A0.6@390"
                + " P0@420 F@450");
    }

    private static void quickFirst() {
        part = "quick first";
        BankKeeper x = keeper();
        readings(x, 0, 32, 1);
        x.cycles(50);
        given(x, "A0.0@0 R0.0#0@3 R0.1#2@7 P0@10 A0.1@13 R0.0#1@16");
        // The oldest of the quick ones first, not the lowest column.
        x = keeper();
        readings(x, 7, 0, 3);
        x.cycles(50);
        given(x, "A0.0@0 R0.7#0@3 R0.0#1@7 R0.3#2@11");
        // A row that a waiting writing wants is closed all the same when readings are looked at.
        x = keeper();
        readings(x, 0);
        x.cycles(4);
        readings(x, 32);
        writings(x, 1);
        x.cycles(26);
        given(x, "A0.0@0 R0.0#0@3 P0@7 A0.1@10 R0.0#1@13 P0@17 A0.0@20 W0.1#2@23");
        // Banks and rows by address: 5 + 8 * 2 + 32 * 6.
        x = keeper();
        readings(x, 213);
        x.cycles(1);
        due("row of bank 2", x.state(12), 6);
        x.cycles(10);
        given(x, "A2.6@0 R2.5#0@3");
    }

    private static void capOnAge() {
        part = "CAP";
        BankKeeper x = new BankKeeper(8, 0);
        readings(x, 0, 32, 1);
        x.cycles(50);
        given(x, "A0.0@0 R0.0#0@3 P0@7 A0.1@10 R0.0#1@13 P0@17 A0.0@20 R0.1#2@23");
        // Alone looked at, the oldest keeps the other bank from being opened too.
        x = new BankKeeper(8, 0);
        readings(x, 0, 8);
        x.cycles(50);
        given(x, "A0.0@0 R0.0#0@3 A1.0@4 R1.0#1@7");
        x = new BankKeeper(8, 2);
        readings(x, 0, 8);
        x.cycles(50);
        given(x, "A0.0@0 A1.0@2 R0.0#0@3 R1.0#1@7");
        x = new BankKeeper(8, 1);
        readings(x, 0, 8);
        x.cycles(50);
        given(x, "A0.0@0 R0.0#0@3 A1.0@4 R1.0#1@7");
        x = new BankKeeper(8, 1);
        writings(x, 0, 8);
        x.cycles(50);
        given(x, "A0.0@0 W0.0#0@3 A1.0@4 W1.0#1@7");
        x = new BankKeeper(8, 0);
        writings(x, 0, 32, 1);
        x.cycles(50);
        given(x, "A0.0@0 W0.0#0@3 P0@14 A0.1@17 W0.0#1@20 P0@31 A0.0@34 W0.1#2@37");
    }

    private static void draining() {
        part = "draining";
        BankKeeper x = new BankKeeper(4, 300);
        writings(x, 0, 1);
        due("before a cycle", x.state(4), 0);
        x.cycles(1);
        due("writings alone", x.state(4), 1);
        x.cycles(2);
        due("still", x.state(4), 1);
        readings(x, 2);
        // Twice two writings are at most four.
        x.cycles(1);
        due("ended for a reading", x.state(4), 0);
        x.cycles(50);
        given(x, "A0.0@0 R0.2#2@3 W0.0#0@9 W0.1#1@13");
        due("nothing waits", x.state(4), 0);
        fullOfWritings();
        notWhileRefreshing();
    }

    private static void fullOfWritings() {
        BankKeeper x = new BankKeeper(5, 300);
        writings(x, 0, 1, 2, 3);
        readings(x, 4);
        x.cycles(1);
        due("one less than QUEUE", x.state(4), 0);
        writings(x, 5);
        x.cycles(3);
        due("as many as QUEUE", x.state(4), 1);
        due("writings", x.state(2), 4);
        x.cycles(4);
        due("writings", x.state(2), 3);
        x.cycles(4);
        due("writings", x.state(2), 2);
        due("drains", x.state(4), 1);
        x.cycles(1);
        due("twice two are at most five", x.state(4), 0);
        x.cycles(50);
        given(x, "A0.0@0 W0.0#0@3 W0.1#1@7 W0.2#2@11 R0.4#4@21 W0.3#3@27 W0.5#5@31");
    }

    // "Nothing else in such a cycle": the keeper goes on draining while a refresh goes first.
    private static void notWhileRefreshing() {
        BankKeeper x = keeper();
        x.cycles(116);
        writings(x, 0);
        x.cycles(4);
        due("drains", x.state(4), 1);
        x.cycles(14);
        due("drains behind the REFRESH", x.state(4), 1);
        x.cycles(1);
        due("drains no more", x.state(4), 0);
        given(x, "A0.0@116 W0.0#0@119 P0@130 F@133");
    }

    private static void held() {
        part = "held";
        BankKeeper x = new BankKeeper(2, 300);
        readings(x, 0);
        writings(x, 0, 1);
        x.cycles(50);
        given(x, "A0.0@0 W0.1#2@3 R0.0#0@13 W0.0#1@19");
        due("value(0), as it was before", x.value(0), 0L);
        x = new BankKeeper(2, 300);
        readings(x, 0);
        writings(x, 0, 0);
        x.cycles(1);
        due("drains", x.state(4), 1);
        x.cycles(50);
        given(x, "A0.0@0 R0.0#0@3 W0.0#1@9 W0.0#2@13");
        // A row that only a held writing wants is not wanted by those looked at.
        x = new BankKeeper(2, 300);
        readings(x, 1);
        x.cycles(4);
        readings(x, 0, 32);
        x.cycles(1);
        writings(x, 0, 32);
        x.cycles(50);
        given(x, "A0.0@0 R0.1#0@3 R0.0#1@7 W0.0#3@13 P0@24 A0.1@27 R0.0#2@30 W0.0#4@36");
    }

    // ---- promise 6

    private static void flip() {
        part = "promise 6";
        BankKeeper x = new BankKeeper(4, 20);
        due("flip(-1, 0)", x.flip(-1, 0), false);
        due("flip(256, 0)", x.flip(256, 0), false);
        due("flip(0, -1)", x.flip(0, -1), false);
        due("flip(0, 72)", x.flip(0, 72), false);
        due("flip(max, max)", x.flip(Integer.MAX_VALUE, Integer.MAX_VALUE), false);
        due("flip(min, min)", x.flip(Integer.MIN_VALUE, Integer.MIN_VALUE), false);
        int[] places = {0, 1, 31, 32, 63, 64, 71};
        for (int place : places) {
            due("flip(255, " + place + ")", x.flip(255, place), true);
            due("bit(255, " + place + ")", x.bit(255, place), 1);
            due("bit(254, " + place + ")", x.bit(254, place), 0);
        }
        due("flip back", x.flip(255, 64), true);
        due("bit(255, 64)", x.bit(255, 64), 0);
        due("bit(255, 0)", x.bit(255, 0), 1);
    }

    private static void scrubbing() {
        part = "scrubbing";
        BankKeeper x = keeper(REFI, 60);
        x.flip(0, 71);
        x.flip(1, 3);
        x.flip(1, 5);
        x.flip(2, 64);
        x.flip(3, 64);
        x.flip(3, 8);
        x.flip(3, 0);
        x.flip(5, 64);
        x.flip(5, 7);
        x.flip(5, 0);
        x.cycles(61);
        due("next", x.state(7), 2);
        due("put right", x.state(6), 1);
        due("bit(0, 71)", x.bit(0, 71), 0);
        due("bit(1, 3), two flipped", x.bit(1, 3), 1);
        due("bit(1, 5), two flipped", x.bit(1, 5), 1);
        due("bit(2, 64), not yet", x.bit(2, 64), 1);
        x.cycles(60);
        due("next", x.state(7), 4);
        due("put right", x.state(6), 2);
        due("bit(2, 64)", x.bit(2, 64), 0);
        due("bit(3, 64), there is no place 72", x.bit(3, 64), 1);
        due("bit(3, 8)", x.bit(3, 8), 1);
        due("bit(3, 0)", x.bit(3, 0), 1);
        x.cycles(60);
        due("put right", x.state(6), 3);
        due("bit(5, 71), taken for the one that flipped", x.bit(5, 71), 1);
        wrapAround();
    }

    private static void wrapAround() {
        BankKeeper x = keeper(REFI, 60);
        pass(x, 127 * 60 + 1);
        due("next", x.state(7), 254);
        x.flip(254, 9);
        x.flip(255, 16);
        x.flip(0, 0);
        x.cycles(60);
        due("next behind 255", x.state(7), 0);
        due("put right", x.state(6), 2);
        x.cycles(60);
        due("next", x.state(7), 2);
        due("put right", x.state(6), 3);
    }

    // ---- promise 7

    private static void status() {
        part = "promise 7";
        BankKeeper x = new BankKeeper(4, 20);
        due("status(0)", x.status(0), -1);
        due("status(-1)", x.status(-1), -1);
        due("status(min)", x.status(Integer.MIN_VALUE), -1);
        due("status(max)", x.status(Integer.MAX_VALUE), -1);
        x.read(0);
        due("came", x.status(0), 0);
        due("status(1)", x.status(1), -1);
        x.cycles(3);
        due("ACTIVATE was given", x.status(0), 0);
        x.cycles(1);
        due("READ was given", x.status(0), 1);
        x.cycles(7);
        due("the burst has not ended", x.status(0), 1);
        x.cycles(1);
        due("the burst ended", x.status(0), 2);
        x.write(1, 4L);
        due("a writing", x.status(1), 0);
        x.read(1);
        due("done at once", x.status(2), 2);
        x.cycles(1);
        due("WRITE was given", x.status(1), 2);
        due("place 3", statusBehind(3), 3);
        due("place 0", statusBehind(0), 3);
        due("place 64", statusBehind(64), 3);
        due("place 71", statusBehind(71), 3);
        due("two places", statusBehind(3, 5), 4);
        due("place 0 and another", statusBehind(0, 5), 4);
        due("three, no place 72", statusBehind(64, 8, 0), 4);
        due("three, place 71", statusBehind(64, 7, 0), 3);
        due("four, syndrome 0", statusBehind(3, 5, 6, 0), 2);
    }

    private static int statusBehind(int... places) {
        BankKeeper x = new BankKeeper(4, 20);
        for (int place : places) {
            x.flip(9, place);
        }
        x.read(9);
        x.cycles(4);
        due("status before the end", x.status(0), 1);
        x.cycles(8);
        for (int place : places) {
            due("a READ leaves the bits as they are", x.bit(9, place), 1);
        }
        return x.status(0);
    }

    // ---- promise 8

    private static void value() {
        part = "promise 8";
        BankKeeper x = new BankKeeper(4, 20);
        due("value(0)", x.value(0), 0L);
        due("value(-1)", x.value(-1), 0L);
        due("value(max)", x.value(Integer.MAX_VALUE), 0L);
        x.write(9, WORD);
        due("what it writes", x.value(0), WORD);
        x.cycles(20);
        x.read(9);
        due("no READ yet", x.value(1), 0L);
        x.cycles(1);
        due("READ was given", x.value(1), WORD);
        x.flip(9, 3);
        x.cycles(10);
        due("taken in the cycle of its READ", x.value(1), WORD);
        due("taken in the cycle of its READ", x.status(1), 2);
        due("one flipped", valueBehind(71), WORD);
        due("one flipped", valueBehind(3), WORD);
        due("a check flipped", valueBehind(32), WORD);
        due("place 0 flipped", valueBehind(0), WORD);
        // Places 3 and 5 hold the word's bits 0 and 1.
        due("bad, as it stands", valueBehind(3, 5), WORD ^ 3L);
        due("bad, as it stands", valueBehind(3, 64, 8 + 3), WORD ^ 1L ^ 1L << 6);
        // 64 ^ 7 is 71, where the word's bit 63 is; place 7 holds bit 3.
        due("three, put right wrongly", valueBehind(64, 7, 0), WORD ^ 1L << 63 ^ 1L << 3);
        due("a writing lays new checks", valueBehindWriting(), 77L);
    }

    private static long valueBehind(int... places) {
        BankKeeper x = new BankKeeper(4, 20);
        x.write(200, WORD);
        x.cycles(20);
        for (int place : places) {
            x.flip(200, place);
        }
        x.read(200);
        x.cycles(20);
        return x.value(1);
    }

    private static long valueBehindWriting() {
        BankKeeper x = new BankKeeper(4, 20);
        x.flip(200, 3);
        x.flip(200, 70);
        x.write(200, 77L);
        x.cycles(20);
        x.read(200);
        x.cycles(20);
        due("status", x.status(1), 2);
        return x.value(1);
    }

    // ---- promise 9

    private static void state() {
        part = "promise 9";
        BankKeeper x = new BankKeeper(4, 20);
        x.read(40);
        x.write(213, 4L);
        x.write(213, 5L);
        x.read(213);
        x.cycles(5);
        long[] due = {5, 0, 2, 0, 1, 3, 0, 0, 4, -1, -1, 1, 6, -1, -1};
        for (int what = 0; what < due.length; what++) {
            due("state(" + what + ")", x.state(what), due[what]);
        }
        due("state(-1)", x.state(-1), -1);
        due("state(15)", x.state(15), -1);
        due("state(min)", x.state(Integer.MIN_VALUE), -1);
        due("state(max)", x.state(Integer.MAX_VALUE), -1);
        x.cycles(200);
        due("closed for a REFRESH", x.state(11), -1);
        due("closed for a REFRESH", x.state(12), -1);
        due("scrubbed", x.state(7), 2);
        due("now", x.state(0), 205);
    }

    // ---- promise 10

    private static void command() {
        part = "promise 10";
        BankKeeper x = new BankKeeper(4, 20);
        x.read(213);
        x.cycles(121);
        x.write(3, 9L);
        x.cycles(40);
        given(x, "A2.6@0 R2.5#0@3 P2@120 A0.0@121 W0.3#1@124 P0@135 F@138");
        int[][] due = {
            {4, -1, -1, 138, -1}, {1, 0, -1, 135, -1}, {3, 0, 3, 124, 1}, {0, 0, 0, 121, -1},
            {1, 2, -1, 120, -1}, {2, 2, 5, 3, 0}, {0, 2, 6, 0, -1}, {-1, -1, -1, -1, -1}};
        for (int k = 0; k < due.length; k++) {
            for (int what = 0; what < 5; what++) {
                due("command(" + k + ", " + what + ")", x.command(k, what), due[k][what]);
            }
            due("command(" + k + ", -1)", x.command(k, -1), -1);
            due("command(" + k + ", 5)", x.command(k, 5), -1);
        }
        due("command(-1, 0)", x.command(-1, 0), -1);
        due("command(min, 3)", x.command(Integer.MIN_VALUE, 3), -1);
        due("command(max, 3)", x.command(Integer.MAX_VALUE, 3), -1);
        latestOnes();
    }

    private static void latestOnes() {
        BankKeeper x = keeper(REFI, 60);
        pass(x, 31 * 60 + 1);
        due("commands", x.state(5), 31);
        due("command(30, 3)", x.command(30, 3), 60);
        due("command(31, 3)", x.command(31, 3), -1);
        pass(x, 60);
        due("command(31, 3)", x.command(31, 3), 60);
        pass(x, 60);
        due("commands", x.state(5), 33);
        due("command(0, 3)", x.command(0, 3), 33 * 60);
        due("command(31, 3)", x.command(31, 3), 120);
        due("command(32, 3)", x.command(32, 3), -1);
    }

    // ---- promise 11

    private static void bit() {
        part = "promise 11";
        BankKeeper x = new BankKeeper(4, 20);
        due("bit(-1, 0)", x.bit(-1, 0), -1);
        due("bit(256, 0)", x.bit(256, 0), -1);
        due("bit(0, -1)", x.bit(0, -1), -1);
        due("bit(0, 72)", x.bit(0, 72), -1);
        due("bit(min, max)", x.bit(Integer.MIN_VALUE, Integer.MAX_VALUE), -1);
        x.write(17, WORD);
        due("not stored yet", x.bit(17, 3), 0);
        x.cycles(20);
        due("the word's bits", wordOfBits(x, 17), WORD);
        checksAreEven(x, 17);
        due("neighbour", wordOfBits(x, 18), 0L);
        // The word 1 is place 3 alone: checks 1 and 2, and place 0 for the fourth bit that is 1.
        x.write(18, 1L);
        x.cycles(20);
        int[] ones = {0, 1, 2, 3};
        int seen = 0;
        for (int place = 0; place < 72; place++) {
            seen += x.bit(18, place);
        }
        for (int place : ones) {
            due("bit(18, " + place + ")", x.bit(18, place), 1);
        }
        due("ones", seen, 4);
        // The word's highest bit is at place 71 = 64 + 4 + 2 + 1: four checks, and place 0 for six.
        x.write(19, Long.MIN_VALUE);
        x.cycles(20);
        int[] high = {0, 1, 2, 4, 64, 71};
        for (int place : high) {
            due("bit(19, " + place + ")", x.bit(19, place), 1);
        }
        checksAreEven(x, 19);
    }

    private static long wordOfBits(BankKeeper x, int address) {
        long word = 0L;
        int bits = 0;
        for (int place = 3; place < 72; place++) {
            if (Integer.bitCount(place) > 1) {
                word |= (long) x.bit(address, place) << bits;
                bits++;
            }
        }
        return word;
    }

    private static void checksAreEven(BankKeeper x, int address) {
        int[] checks = {0, 1, 2, 4, 8, 16, 32, 64};
        int[] bits = new int[72];
        for (int place = 0; place < 72; place++) {
            bits[place] = x.bit(address, place);
        }
        for (int check : checks) {
            int ones = 0;
            for (int place = 0; place < 72; place++) {
                ones += (place & check) == check ? bits[place] : 0;
            }
            due("ones of check " + check + " of " + address + " modulo 2", ones % 2, 0);
        }
    }
}
