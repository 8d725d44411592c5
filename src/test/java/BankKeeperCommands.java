/**
 * The commands and what each needs to be allowed: for each timing the earliest cycle in which it
 * lets a command through, over all values that it can have, in runs where nothing else bounds the
 * command later. All cycles are worked out by hand; at first they are RCD 3, RP 3, RAS 7, RC 10,
 * RRD 2, FAW 9, CCD 4, WR 4, WTR 3, RTP 3, CL 4, CWL 3, RFC 12, REFI 120.
 */
public final class BankKeeperCommands {
    private static final int RCD = Kept.RCD, RP = Kept.RP, RAS = Kept.RAS, RC = Kept.RC, RRD = Kept.RRD;
    private static final int FAW = Kept.FAW, CCD = Kept.CCD, WR = Kept.WR, WTR = Kept.WTR, RTP = Kept.RTP;
    private static final int CL = Kept.CL, CWL = Kept.CWL, RFC = Kept.RFC, REFI = Kept.REFI;
    private static final int MOST = 30;

    public static void main(String[] args) {
        atFirst();
        neverWas();
        activate();
        precharge();
        read();
        write();
        bus();
        refresh();
        Sentences.end();
    }

    // Each run is bound by the one timing alone that it is named for, and does not set it.
    private static void atFirst() {
        Sentences.test("at first: 0 RCD 3", () ->
                Kept.with().reads(0).pass(20).given("A0.0@0 R0.0#0@3"));
        Sentences.test("1 RP 3", () ->
                Kept.with(RC, 1, RAS, 1, RTP, 1).reads(0, 32).pass(20)
                        .given("A0.0@0 R0.0#0@3 P0@4 A0.1@7 R0.0#1@10"));
        Sentences.test("2 RAS 7", () ->
                Kept.with(RTP, 1, RCD, 1).reads(0, 32).pass(20)
                        .given("A0.0@0 R0.0#0@1 P0@7 A0.1@10 R0.0#1@11"));
        Sentences.test("3 RC 10", () ->
                Kept.with(RP, 1, RAS, 1, RTP, 1, RCD, 1).reads(0, 32).pass(20)
                        .given("A0.0@0 R0.0#0@1 P0@2 A0.1@10 R0.0#1@11"));
        Sentences.test("4 RRD 2", () ->
                Kept.with().reads(0, 8).pass(20).given("A0.0@0 A1.0@2 R0.0#0@3 R1.0#1@7"));
        Sentences.test("5 FAW 9", () ->
                Kept.with(RRD, 1, RC, 1, RP, 1, RAS, 1, RTP, 1).reads(0, 8, 16, 24, 32).pass(30)
                        .given("A0.0@0 A1.0@1 A2.0@2 R0.0#0@3 A3.0@4 P0@5 R1.0#1@7 A0.1@9 R2.0#2@11"
                                + " R3.0#3@15 R0.0#4@19"));
        // With so late a burst the bus would be free for a WRITE in cycle 0.
        Sentences.test("6 CCD 4", () ->
                Kept.with(CWL, 12).reads(0).pass(4).writes(1).pass(20).given("A0.0@0 R0.0#0@3 W0.1#1@7"));
        Sentences.test("7 WR 4", () ->
                Kept.with().writes(0, 32).pass(30).given("A0.0@0 W0.0#0@3 P0@14 A0.1@17 W0.0#1@20"));
        Sentences.test("8 WTR 3", () ->
                Kept.with().writes(0).pass(4).reads(1).pass(20).given("A0.0@0 W0.0#0@3 R0.1#1@13"));
        Sentences.test("9 RTP 3", () ->
                Kept.with(RAS, 1).reads(0, 32).pass(20).given("A0.0@0 R0.0#0@3 P0@6 A0.1@10 R0.0#1@13"));
        Sentences.test("10 CL 4", () -> doneIn(Kept.with(), 11));
        Sentences.test("11 CWL 3", () ->
                Kept.with().reads(0).pass(4).writes(1).pass(20).given("A0.0@0 R0.0#0@3 W0.1#1@9"));
        Sentences.test("12 RFC 12", () ->
                Kept.with().pass(121).reads(0).pass(20).given("F@120 A0.0@132 R0.0#0@135"));
        Sentences.test("13 REFI 120", () -> Kept.with().pass(300).given("F@120 F@240"));
        Sentences.test("A bank is CLOSED (at first)", () -> {
            Kept x = Kept.with();
            for (int bank = 0; bank < 4; bank++) {
                x.state(10 + bank, -1);
            }
        });
    }

    private static Kept slowest() {
        Kept x = Kept.with(REFI, 60);
        for (int which = 0; which <= 12; which++) {
            x.set(which, MOST);
        }
        return x;
    }

    private static void neverWas() {
        Sentences.test("what never was bounds nothing: ACTIVATE and READ", () ->
                slowest().reads(0).pass(31).given("A0.0@0 R0.0#0@30"));
        Sentences.test("what never was bounds nothing: WRITE", () ->
                slowest().writes(0).pass(31).given("A0.0@0 W0.0#0@30"));
        Sentences.test("what never was bounds nothing: REFRESH", () -> slowest().pass(61).given("F@60"));
        // The writings drain, and want another row than the one that was opened for the reading.
        Sentences.test("what never was bounds nothing: PRECHARGE without READ or WRITE", () ->
                new Kept(2, 300).set(RCD, 30, RTP, 30, WR, 30).reads(0).pass(1).writes(32, 33).pass(40)
                        .given("A0.0@0 P0@7 A0.1@10 W0.0#1@40"));
        Sentences.test("what never was bounds nothing: the fourth latest ACTIVATE of three", () ->
                Kept.with(FAW, 30, RRD, 1).reads(0, 8, 16, 24).pass(6)
                        .given("A0.0@0 A1.0@1 A2.0@2 R0.0#0@3 A3.0@4"));
    }

    private static void activate() {
        Sentences.test("ACTIVATE: t is at least RP behind its latest PRECHARGE", () -> {
            for (int v = 1; v <= MOST; v++) {
                int again = Math.max(10, 7 + v);
                Kept.with(RP, v).reads(0, 32).pass(50)
                        .given("A0.0@0 R0.0#0@3 P0@7 A0.1@" + again + " R0.0#1@" + (again + 3));
            }
        });
        Sentences.test("ACTIVATE: .. its latest PRECHARGE (not that of another bank)", () ->
                Kept.with(RP, 30).reads(0, 32).pass(8).reads(8).pass(50)
                        .given("A0.0@0 R0.0#0@3 P0@7 A1.0@8 R1.0#2@11 A0.1@37 R0.0#1@40"));
        Sentences.test("ACTIVATE: RC behind its latest ACTIVATE", () -> {
            for (int v = 1; v <= MOST; v++) {
                int again = Math.max(10, v);
                Kept.with(RC, v).reads(0, 32).pass(50)
                        .given("A0.0@0 R0.0#0@3 P0@7 A0.1@" + again + " R0.0#1@" + (again + 3));
            }
        });
        Sentences.test("ACTIVATE: .. its latest ACTIVATE (not that of another bank)", () ->
                Kept.with(RC, 30).reads(0, 8).pass(50).given("A0.0@0 A1.0@2 R0.0#0@3 R1.0#1@7"));
        Sentences.test("ACTIVATE: RRD behind the latest ACTIVATE of any bank", () -> {
            for (int v = 1; v <= MOST; v++) {
                // Cycle 3 is the first READ's.
                int other = v == 3 ? 4 : v;
                String second = "A1.0@" + other;
                Kept.with(RRD, v).reads(0, 8).pass(50)
                        .given("A0.0@0 " + (v < 3 ? second + " R0.0#0@3" : "R0.0#0@3 " + second)
                                + " R1.0#1@" + Math.max(7, other + 3));
            }
        });
        Sentences.test("ACTIVATE: .. of any bank (its own too)", () ->
                Kept.with(RRD, 30).reads(0, 32).pass(50).given("A0.0@0 R0.0#0@3 P0@7 A0.1@30 R0.0#1@33"));
        Sentences.test("ACTIVATE: FAW behind the fourth latest of any", () -> {
            for (int v = 1; v <= MOST; v++) {
                fifthActivate(v);
            }
        });
        // The ACTIVATES before the last one are those of cycles 0, 10, 12, 14 and 30.
        Sentences.test("ACTIVATE: .. the fourth latest (not the fifth, which is farther behind)", () ->
                Kept.with(FAW, 30).reads(0).pass(10).reads(8, 16, 24, 32, 40).pass(40)
                        .given("A0.0@0 R0.0#0@3 A1.0@10 P0@11 A2.0@12 R1.0#1@13 A3.0@14 R2.0#2@17 P1@18"
                                + " R3.0#3@21 A0.1@30 R0.0#4@33 A1.1@40 R1.0#5@43"));
        Sentences.test("ACTIVATE: RFC behind the latest REFRESH", () -> {
            for (int v = 1; v <= MOST; v++) {
                Kept.with(RFC, v).pass(121).reads(0).pass(50)
                        .given("F@120 A0.0@" + (120 + v) + " R0.0#0@" + (123 + v));
            }
        });
        Sentences.test("ACTIVATE: The row is open then.", () -> {
            for (int row = 0; row < 8; row++) {
                Kept x = Kept.with().reads(8 + 32 * row).pass(1);
                x.state(10, -1);
                x.state(11, row);
                x.state(12, -1);
            }
        });
        Sentences.test("ACTIVATE: the bank is closed (a bank with another row open is closed first)", () -> {
            Kept x = Kept.with(RAS, 30).reads(0, 32).pass(30);
            x.state(10, 0);
            x.given("A0.0@0 R0.0#0@3");
            x.pass(1).given("A0.0@0 R0.0#0@3 P0@30");
        });
    }

    /** Bound by FAW, or in cycle 12 by the PRECHARGE in 8 and the READ in 11. */
    private static void fifthActivate(int faw) {
        int fifth = Math.max(12, faw);
        if (fifth == 15) {
            fifth = 16; // cycle 15 is a READ's
        }
        String again = "A0.1@" + fifth;
        Kept.with(FAW, faw).reads(0, 8, 16, 24, 32).pass(50)
                .given("A0.0@0 A1.0@2 R0.0#0@3 A2.0@4 A3.0@6 R1.0#1@7 P0@8 R2.0#2@11 "
                        + (fifth < 15 ? again + " R3.0#3@15" : "R3.0#3@15 " + again)
                        + " R0.0#4@" + Math.max(19, fifth + 3));
    }

    private static void precharge() {
        Sentences.test("PRECHARGE: t is at least RAS behind its latest ACTIVATE", () -> {
            for (int v = 1; v <= MOST; v++) {
                int closed = Math.max(6, v);
                int again = Math.max(10, closed + 3);
                Kept.with(RAS, v).reads(0, 32).pass(50)
                        .given("A0.0@0 R0.0#0@3 P0@" + closed + " A0.1@" + again + " R0.0#1@" + (again + 3));
            }
        });
        Sentences.test("PRECHARGE: RTP behind its latest READ", () -> {
            for (int v = 1; v <= MOST; v++) {
                int closed = Math.max(7, 3 + v);
                int again = Math.max(10, closed + 3);
                Kept.with(RTP, v).reads(0, 32).pass(50)
                        .given("A0.0@0 R0.0#0@3 P0@" + closed + " A0.1@" + again + " R0.0#1@" + (again + 3));
            }
        });
        Sentences.test("PRECHARGE: its latest ACTIVATE, its latest READ (not those of another bank)", () ->
                Kept.with(RAS, 30).reads(0).pass(25).reads(8).pass(4).reads(32).pass(20)
                        .given("A0.0@0 R0.0#0@3 A1.0@25 R1.0#1@28 P0@30 A0.1@33 R0.0#2@36"));
        Sentences.test("PRECHARGE: CWL + 4 + WR behind its latest WRITE", () -> {
            for (int v = 1; v <= MOST; v++) {
                Kept.with(WR, v).writes(0, 32).pass(60).given("A0.0@0 W0.0#0@3 P0@" + (10 + v)
                        + " A0.1@" + (13 + v) + " W0.0#1@" + (16 + v));
                Kept.with(CWL, v).writes(0, 32).pass(60).given("A0.0@0 W0.0#0@3 P0@" + (11 + v)
                        + " A0.1@" + (14 + v) + " W0.0#1@" + (17 + v));
            }
        });
        Sentences.test("PRECHARGE: its latest WRITE (not that of another bank)", () ->
                Kept.with(WR, 30).writes(0).pass(4).reads(8, 40).pass(50)
                        .given("A0.0@0 W0.0#0@3 A1.0@4 R1.0#1@13 P1@16 A1.1@19 R1.0#2@22"));
        Sentences.test("PRECHARGE: its latest READ, its latest WRITE (not its first)", () -> {
            Kept.with(RTP, 10).reads(0, 1, 32).pass(50)
                    .given("A0.0@0 R0.0#0@3 R0.1#1@7 P0@17 A0.1@20 R0.0#2@23");
            Kept.with().writes(0, 1, 32).pass(50)
                    .given("A0.0@0 W0.0#0@3 W0.1#1@7 P0@18 A0.1@21 W0.0#2@24");
        });
        // With both banks open for a REFRESH, each is closed once and not again.
        Sentences.test("PRECHARGE a bank: it is open", () ->
                Kept.with(RP, 20).reads(0, 8).pass(200)
                        .given("A0.0@0 A1.0@2 R0.0#0@3 R1.0#1@7 P0@120 P1@121 F@141"));
        Sentences.test("PRECHARGE: It is closed then.", () -> {
            Kept x = Kept.with().reads(8, 40).pass(7);
            x.state(11, 0);
            x.pass(1).state(11, -1);
            x.given("A1.0@0 R1.0#0@3 P1@7");
        });
    }

    private static void read() {
        Sentences.test("READ: t is at least RCD behind the bank's latest ACTIVATE", () -> {
            for (int v = 1; v <= MOST; v++) {
                Kept.with(RCD, v).reads(0).pass(50).given("A0.0@0 R0.0#0@" + v);
            }
        });
        Sentences.test("READ: the bank's latest ACTIVATE (not that of another bank)", () ->
                Kept.with(RCD, 30, RRD, 28).reads(0, 8).pass(70)
                        .given("A0.0@0 A1.0@28 R0.0#0@30 R1.0#1@58"));
        Sentences.test("READ a column of the row that is open", () ->
                Kept.with(RAS, 30).reads(0).pass(20).reads(32).pass(20)
                        .given("A0.0@0 R0.0#0@3 P0@30 A0.1@33 R0.0#1@36"));
        Sentences.test("READ: CCD behind the latest READ or WRITE of any bank: a READ", () -> {
            for (int v = 1; v <= MOST; v++) {
                int second = Math.max(7, 3 + v);
                Kept.with(CCD, v).reads(0, 1).pass(50).given("A0.0@0 R0.0#0@3 R0.1#1@" + second);
                Kept.with(CCD, v).reads(0, 8).pass(50).given("A0.0@0 A1.0@2 R0.0#0@3 R1.0#1@" + second);
            }
        });
        Sentences.test("READ: CCD behind the latest READ or WRITE of any bank: a WRITE", () ->
                Kept.with(CCD, 30).writes(0).pass(4).reads(8).pass(50)
                        .given("A0.0@0 W0.0#0@3 A1.0@4 R1.0#1@33"));
        Sentences.test("READ: CWL + 4 + WTR behind the latest WRITE of any", () -> {
            for (int v = 1; v <= MOST; v++) {
                Kept.with(WTR, v).writes(0).pass(4).reads(1).pass(50)
                        .given("A0.0@0 W0.0#0@3 R0.1#1@" + (10 + v));
                Kept.with(WTR, v).writes(0).pass(4).reads(8).pass(50)
                        .given("A0.0@0 W0.0#0@3 A1.0@4 R1.0#1@" + (10 + v));
                Kept.with(CWL, v).writes(0).pass(4).reads(1).pass(50)
                        .given("A0.0@0 W0.0#0@3 R0.1#1@" + (10 + v));
            }
        });
    }

    private static void write() {
        Sentences.test("WRITE likewise: RCD", () -> {
            for (int v = 1; v <= MOST; v++) {
                Kept.with(RCD, v).writes(0).pass(50).given("A0.0@0 W0.0#0@" + v);
            }
        });
        Sentences.test("WRITE likewise: CCD", () -> {
            for (int v = 1; v <= MOST; v++) {
                int second = Math.max(7, 3 + v);
                Kept.with(CCD, v).writes(0, 1).pass(50).given("A0.0@0 W0.0#0@3 W0.1#1@" + second);
                Kept.with(CCD, v).writes(0, 8).pass(50).given("A0.0@0 A1.0@2 W0.0#0@3 W1.0#1@" + second);
                // Behind a READ, with a burst so late that the bus is free for it.
                Kept.with(CCD, v, CWL, 12).reads(0).pass(4).writes(1).pass(50)
                        .given("A0.0@0 R0.0#0@3 W0.1#1@" + (3 + v));
            }
        });
        Sentences.test("WRITE likewise: RCD, CCD, and the bus (not WTR)", () ->
                Kept.with(WTR, 30).writes(0, 1).pass(50).given("A0.0@0 W0.0#0@3 W0.1#1@7"));
    }

    private static void bus() {
        Sentences.test("its BURST begins, which takes 4 cycles", () -> {
            Kept.with(CCD, 1).reads(0, 1).pass(50).given("A0.0@0 R0.0#0@3 R0.1#1@7");
            Kept.with(CCD, 1).writes(0, 1).pass(50).given("A0.0@0 W0.0#0@3 W0.1#1@7");
        });
        Sentences.test("the BUS is free from cycle t + CL on (for a READ behind a READ CL is the same)", () -> {
            for (int v = 1; v <= MOST; v++) {
                Kept.with(CL, v).reads(0, 1).pass(50).given("A0.0@0 R0.0#0@3 R0.1#1@7");
            }
        });
        Sentences.test("the bus is free from t + CWL on (for a WRITE behind a WRITE CWL is the same)", () -> {
            for (int v = 1; v <= MOST; v++) {
                Kept.with(CWL, v).writes(0, 1).pass(50).given("A0.0@0 W0.0#0@3 W0.1#1@7");
            }
        });
        // The READ's burst ends in cycle 7 + CL; the WRITE's begins one cycle later, or behind that.
        Sentences.test("and one cycle later if that burst was of the other kind", () -> {
            for (int v = 1; v <= MOST; v++) {
                Kept.with(CL, v).reads(0).pass(4).writes(1).pass(50)
                        .given("A0.0@0 R0.0#0@3 W0.1#1@" + Math.max(7, 5 + v));
                Kept.with(CWL, v).reads(0).pass(4).writes(1).pass(50)
                        .given("A0.0@0 R0.0#0@3 W0.1#1@" + Math.max(7, 12 - v));
            }
        });
        // The first WRITE pays for the change of kinds, the second one does not.
        Sentences.test("the burst that began last", () ->
                Kept.with(CCD, 1, CL, 10).reads(0).pass(4).writes(1, 2).pass(50)
                        .given("A0.0@0 R0.0#0@3 W0.1#1@15 W0.2#2@19"));
        Sentences.test("Readings whose burst ended (READ + CL + 4 is this cycle) are DONE.", () -> {
            for (int v = 1; v <= MOST; v++) {
                doneIn(Kept.with(CL, v), 7 + v);
            }
        });
    }

    /** A reading whose READ is given in cycle 3. */
    private static void doneIn(Kept x, int cycle) {
        x.reads(0).pass(3);
        x.status(0, 0);
        x.pass(1).status(0, 1);
        x.pass(cycle - 4).status(0, 1);
        x.pass(1).status(0, 2);
    }

    private static void refresh() {
        Sentences.test("REFRESH: all banks are closed", () -> {
            for (int bank = 0; bank < 4; bank++) {
                Kept.with().reads(8 * bank).pass(200)
                        .given("A" + bank + ".0@0 R" + bank + ".0#0@3 P" + bank + "@120 F@123");
            }
        });
        Sentences.test("REFRESH: t is at least RP behind the latest PRECHARGE of each", () -> {
            for (int v = 1; v <= MOST; v++) {
                Kept.with(RP, v).reads(0, 8).pass(200)
                        .given("A0.0@0 A1.0@2 R0.0#0@3 R1.0#1@7 P0@120 P1@121 F@" + (121 + v));
            }
        });
        // Bank 0 is closed last, so that its PRECHARGE is the one that bounds.
        Sentences.test("REFRESH: .. of each (not of the highest bank alone)", () ->
                Kept.with(RAS, 30, RP, 10).reads(8).pass(110).reads(0).pass(100)
                        .given("A1.0@0 R1.0#0@3 A0.0@110 R0.0#1@113 P1@120 P0@140 F@150"));
        Sentences.test("REFRESH: RFC behind the latest REFRESH", () -> {
            for (int v = 1; v <= MOST; v++) {
                Kept x = Kept.with(RCD, 30, RP, 30, REFI, 60, RFC, v).reads(0, 32, 64, 96, 128);
                x.pass(316 + 2 * v);
                x.latest("A0.4@252 R0.0#4@282 P0@285 F@315 F@" + (315 + v) + " F@" + (315 + 2 * v));
            }
        });
    }
}
