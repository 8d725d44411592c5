/**
 * Which command a cycle gets: requests that wait or are done at once, refreshes that are owed,
 * draining, what is looked at, and what is served first. All cycles are worked out by hand.
 */
public final class BankKeeperChoice {
    private static final int RCD = Kept.RCD, RP = Kept.RP, RAS = Kept.RAS, CCD = Kept.CCD;
    private static final int CL = Kept.CL, REFI = Kept.REFI;

    public static void main(String[] args) {
        requests();
        owed();
        refreshFirst();
        draining();
        lookedAt();
        cap();
        quickFirst();
        openAndClose();
        Sentences.end();
    }

    private static void requests() {
        Sentences.test("CYCLES are 0, 1, ..; NOW is the next one, 0 at first.", () -> {
            Kept x = Kept.with();
            x.state(0, 0);
            x.reads(0).pass(1);
            x.state(0, 1);
            x.command(0, 3, 0);
        });
        Sentences.test("An address is column + 8 * bank + 32 * row", () -> {
            for (int address = 0; address < 256; address++) {
                int column = address & 7;
                int bank = address >> 3 & 3;
                int row = address >> 5;
                Kept x = Kept.with().reads(address).pass(4);
                x.given("A" + bank + "." + row + "@0 R" + bank + "." + column + "#0@3");
                x.state(10 + bank, row);
            }
        });
        Sentences.test("A READING that comes while a WRITING of its address waits is DONE at once", () -> {
            Kept x = Kept.with().writes(0).reads(0);
            x.status(1, 2);
            x.value(1, 1000L);
            x.state(1, 0);
        });
        Sentences.test("A READING .. of its address (not of a neighbour)", () -> {
            Kept x = Kept.with().writes(1, 8, 32, 255).reads(0);
            x.status(4, 0);
            x.value(4, 0L);
            x.state(1, 1);
        });
        Sentences.test("A READING .. while a WRITING waits (not behind its WRITE)", () -> {
            Kept x = Kept.with().writes(0).pass(3).reads(0);
            x.status(1, 2);
            x.pass(1).reads(0);
            x.given("A0.0@0 W0.0#0@3");
            x.status(2, 0);
            x.state(1, 1);
        });
        Sentences.test("with what the latest one of these writes", () -> {
            Kept x = Kept.with();
            x.write(7, 70L, 0);
            x.write(7, 71L, 1);
            x.write(8, 80L, 2);
            x.read(7, 3);
            x.value(3, 71L);
        });
        // It has its word from the writing, whatever becomes of the stored one.
        Sentences.test("DONE at once (a bit that flipped is not seen)", () -> {
            Kept x = Kept.with().writes(7).flips(7, 3).reads(7);
            x.status(1, 2);
            x.value(1, 1007L);
        });
        Sentences.test("readings at most QUEUE, writings at most QUEUE (apart)", () -> {
            for (int queue = 2; queue <= 8; queue++) {
                apart(queue);
            }
        });
        Sentences.test("A writing is HELD while a reading of its address waits that came before it.", () -> {
            Kept x = new Kept(2, 300).reads(0).writes(0, 1).pass(50);
            x.given("A0.0@0 W0.1#2@3 R0.0#0@13 W0.0#1@19");
            x.value(0, 0L);
        });
        Sentences.test("HELD while a reading of its address waits (another address holds nothing)", () ->
                new Kept(2, 300).reads(1).writes(0, 2).pass(4).given("A0.0@0 W0.0#1@3"));
        // Both writings are held at first; that of 0 no more behind the READ of 0 in cycle 7.
        Sentences.test("HELD while a reading of its address waits (each by its own)", () ->
                new Kept(2, 300).reads(1).pass(4).reads(0, 32).pass(1).writes(0, 32).pass(50)
                        .given("A0.0@0 R0.1#0@3 R0.0#1@7 W0.0#3@13 P0@24 A0.1@27 R0.0#2@30 W0.0#4@36"));
        // The burst has not ended when the writing of the same address gets its WRITE.
        Sentences.test("HELD while a reading waits (not behind its READ)", () -> {
            Kept x = Kept.with(CL, 30, Kept.CWL, 30).reads(0).writes(0).pass(9);
            x.given("A0.0@0 R0.0#0@3 W0.0#1@8");
            x.status(0, 1);
        });
    }

    private static void apart(int queue) {
        Kept x = new Kept(queue, 300);
        for (int i = 0; i < queue; i++) {
            x.read(i, i);
        }
        x.read(100, -2);
        for (int i = 0; i < queue; i++) {
            x.write(200 + i, 1L, queue + i);
        }
        x.write(100, 1L, -2);
        x.state(1, queue);
        x.state(2, queue);
        Kept y = new Kept(queue, 300);
        for (int i = 0; i < queue; i++) {
            y.write(200 + i, 1L, i);
        }
        y.write(100, 1L, -2);
        y.read(100, queue);
    }

    private static void owed() {
        Sentences.test("(1) if it is above 0 (cycle 0 owes nothing)", () -> {
            Kept x = Kept.with();
            x.cycles(1, 0);
            x.state(3, 0);
            x = Kept.with().reads(0);
            x.cycles(1, 1);
            x.state(3, 0);
        });
        Sentences.test("and a multiple of REFI: one refresh more is OWED", () -> {
            int[] intervals = {60, 61, 399, 400};
            for (int v : intervals) {
                Kept x = Kept.with(REFI, v).pass(v);
                x.given("");
                x.pass(1).given("F@" + v);
                x.pass(v - 1).given("F@" + v);
                x.pass(1).given("F@" + v + " F@" + 2 * v);
            }
        });
        // The bank opens in 252 for the last of them, so something waits up to cycle 282.
        Sentences.test("one refresh more is OWED, while something waits", () -> {
            Kept x = Kept.with(RCD, 30, RP, 30, REFI, 60).reads(0, 32, 64, 96, 128);
            x.pass(60).state(3, 0);
            for (int many = 1; many <= 4; many++) {
                x.pass(1).state(3, many);
                x.pass(59).state(3, many);
            }
        });
        Sentences.test("A REFRESH pays one that is owed", () -> {
            Kept x = Kept.with(RCD, 30, RP, 30, REFI, 60).reads(0, 32, 64, 96, 128).pass(315);
            x.state(3, 5);
            for (int paid = 1; paid <= 4; paid++) {
                x.cycles(1, 1);
                x.state(3, 5 - paid);
                x.cycles(11, 0);
            }
        });
    }

    private static void refreshFirst() {
        Sentences.test("If 6 or more are owed (5 are not enough, while something waits)", () -> {
            Kept x = Kept.with(RCD, 30, RP, 30, REFI, 60).reads(0, 32, 64, 96, 128, 160, 192, 224).pass(360);
            x.state(3, 5);
            x.latest("A0.5@315 R0.0#5@345 P0@348");
            x.pass(1).state(3, 6);
            // The row would open in 378; with 5 owed again it opens as soon as the REFRESH lets it.
            x.pass(40).latest("P0@348 F@378 A0.6@390");
            x.state(3, 5);
            // In 420 the READ would be allowed, but 6 are owed again.
            x.pass(50).latest("F@378 A0.6@390 P0@420 F@450");
        });
        // The latest WRITE keeps the bank open up to 359 + 30 + 4 + 30, so 7 are owed from 420 on.
        Sentences.test("If 6 or more are owed (7 too)", () -> {
            Kept x = Kept.with(Kept.CWL, 30, Kept.WR, 30, RP, 30, REFI, 60).writes(0, 0).pass(4);
            for (int i = 0; i < 89; i++) {
                x.writes(0).pass(4);
            }
            x.pass(92).state(3, 7);
            x.pass(2).state(3, 6);
            x.pass(12).state(3, 5);
            x.pass(12).latest("W0.0#89@359 P0@423 F@453 F@465 A0.0@477");
        });
        Sentences.test("or one or more and nothing waits (a reading does)", () ->
                Kept.with(RCD, 30).pass(118).reads(0).pass(60).given("A0.0@118 R0.0#0@148 P0@151 F@154"));
        Sentences.test("or one or more and nothing waits (a writing does)", () ->
                Kept.with(RCD, 30).pass(118).writes(0).pass(60).given("A0.0@118 W0.0#0@148 P0@159 F@162"));
        Sentences.test("and nothing waits (a reading whose READ was given waits no more)", () -> {
            Kept x = Kept.with().pass(118).reads(0, 1).pass(8);
            x.state(3, 1);
            x.pass(6).given("A0.0@118 R0.0#0@121 R0.1#1@125 P0@128 F@131");
            x.status(1, 1);
            x.state(3, 0);
        });
        Sentences.test("if some are not, a PRECHARGE of the lowest bank", () -> {
            Kept.with().reads(24, 16, 8, 0).pass(200)
                    .latest("R1.0#2@11 R0.0#3@15 P0@120 P1@121 P2@122 P3@123 F@126");
            Kept.with().reads(24, 8).pass(200)
                    .given("A3.0@0 A1.0@2 R3.0#0@3 R1.0#1@7 P1@120 P3@121 F@124");
        });
        Sentences.test("the lowest bank for which it is allowed", () ->
                Kept.with(RAS, 30).reads(8).pass(110).reads(0).pass(100)
                        .given("A1.0@0 R1.0#0@3 A0.0@110 R0.0#1@113 P1@120 P0@140 F@143"));
        // Bank 1 must stay open up to 386; its READ would be allowed from 363 on.
        Sentences.test("(Nothing else in such a cycle.)", () -> {
            Kept x = pressed();
            x.pass(40).latest("A1.0@356 R0.0#89@359 P0@362 P1@386 F@389");
            x.pass(2).latest("F@389 A0.0@401");
        });
        Sentences.test("(Nothing else in such a cycle.): the keeper does not begin to drain", () -> {
            Kept x = pressed().pass(3).writes(0, 1, 2, 3, 4, 5, 6, 7).pass(27);
            x.latest("P1@386 F@389");
            x.state(0, 390);
            x.state(4, 0);
            x.pass(1).state(4, 1);
        });
        Sentences.test("(Nothing else in such a cycle.): the keeper does not end to drain", () -> {
            Kept x = Kept.with().pass(116).writes(0).pass(4);
            x.state(4, 1);
            x.pass(14).state(4, 1);
            x.given("A0.0@116 W0.0#0@119 P0@130 F@133");
            x.pass(1).state(4, 0);
        });
    }

    /** In cycle 360, where 6 come to be owed: readings always waited, and bank 1 opened in 356. */
    private static Kept pressed() {
        Kept x = Kept.with(REFI, 60, RAS, 30).reads(0, 0).pass(4);
        for (int i = 0; i < 88; i++) {
            x.reads(0).pass(4);
        }
        x.reads(0, 8).pass(4);
        x.state(3, 5);
        return x;
    }

    private static void draining() {
        Sentences.test("begins to DRAIN when writings wait and no readings do", () -> {
            Kept x = Kept.with().writes(0);
            x.state(4, 0);
            x.pass(1).state(4, 1);
            x = Kept.with().reads(0).writes(1).pass(4);
            x.given("A0.0@0 R0.0#0@3");
            x.state(4, 0);
            x.pass(1).state(4, 1);
        });
        Sentences.test("begins to DRAIN when writings wait (none do)", () -> Kept.with().pass(3).state(4, 0));
        Sentences.test("or as many writings as QUEUE (one less is not enough)", () -> {
            for (int queue = 2; queue <= 8; queue++) {
                Kept x = new Kept(queue, 300).reads(0);
                for (int i = 1; i < queue; i++) {
                    x.writes(i);
                }
                x.pass(2).state(4, 0);
                x.writes(1).pass(1);
                x.state(4, 1);
            }
        });
        Sentences.test("it ends when no writings wait", () -> {
            Kept x = Kept.with().writes(0, 1).pass(8);
            x.given("A0.0@0 W0.0#0@3 W0.1#1@7");
            x.state(4, 1);
            x.pass(1).state(4, 0);
        });
        Sentences.test("or when readings do and twice the writings are at most QUEUE", () -> {
            for (int queue = 2; queue <= 8; queue++) {
                endsAtHalf(queue);
            }
        });
        Sentences.test("or when readings do (without them few writings go on)", () -> {
            Kept x = Kept.with(CCD, 30).writes(0, 1).pass(30);
            x.state(2, 1);
            x.state(4, 1);
            x.reads(2).pass(1);
            x.state(4, 0);
        });
    }

    /** From a full queue the keeper writes every fourth cycle from 3 on, while a reading waits. */
    private static void endsAtHalf(int queue) {
        Kept x = new Kept(queue, 300).reads(0);
        for (int i = 1; i <= queue; i++) {
            x.writes(i == queue ? 1 : i);
        }
        int writings = queue;
        x.pass(1);
        while (2 * writings > queue) {
            x.state(4, 1);
            x.state(2, writings);
            x.pass(3).state(2, writings - 1);
            x.state(4, 1);
            x.pass(1);
            writings--;
        }
        x.state(4, 0);
        x.state(1, 1);
    }

    private static void lookedAt() {
        Sentences.test("LOOKED AT are the writings not held, if it drains", () ->
                new Kept(4, 300).reads(32).writes(0, 1, 2, 3).pass(50)
                        .given("A0.0@0 W0.0#1@3 W0.1#2@7 P0@18 A0.1@21 R0.0#0@24 P0@28 A0.0@31 W0.2#3@34"
                                + " W0.3#4@38"));
        Sentences.test("otherwise the readings", () ->
                Kept.with().writes(0).reads(32).pass(30)
                        .given("A0.1@0 R0.0#1@3 P0@7 A0.0@10 W0.0#0@13"));
        Sentences.test("if there are none of these, the others (all writings are held)", () -> {
            Kept x = new Kept(2, 300).reads(0).writes(0, 0).pass(1);
            x.state(4, 1);
            x.pass(50).given("A0.0@0 R0.0#0@3 W0.0#1@9 W0.0#2@13");
        });
        Sentences.test("if there are none of these (nothing waits at all)", () -> Kept.with().cycles(100, 0));
    }

    private static void cap() {
        // In cycle 7 the quick reading and the PRECHARGE for the older one are both allowed first.
        Sentences.test("but only the oldest of them, if its age is above CAP", () -> {
            for (int came = 4; came <= 7; came++) {
                for (int cap = 0; cap <= 4; cap++) {
                    Kept x = new Kept(8, cap).reads(0).pass(came).reads(32, 1).pass(8 - came);
                    x.given("A0.0@0 R0.0#0@3 " + (7 - came > cap ? "P0@7" : "R0.1#2@7"));
                }
            }
        });
        Sentences.test("only the oldest of them (no bank is opened for another)", () -> {
            new Kept(8, 2).reads(0, 8).pass(50).given("A0.0@0 A1.0@2 R0.0#0@3 R1.0#1@7");
            new Kept(8, 1).reads(0, 8).pass(50).given("A0.0@0 R0.0#0@3 A1.0@4 R1.0#1@7");
        });
        Sentences.test("only the oldest of them (a row that others want is closed)", () ->
                new Kept(8, 0).reads(0, 32, 1).pass(50)
                        .given("A0.0@0 R0.0#0@3 P0@7 A0.1@10 R0.0#1@13 P0@17 A0.0@20 R0.1#2@23"));
        Sentences.test("only the oldest of them (writings likewise)", () -> {
            new Kept(8, 2).writes(0, 8).pass(50).given("A0.0@0 A1.0@2 W0.0#0@3 W1.0#1@7");
            new Kept(8, 1).writes(0, 8).pass(50).given("A0.0@0 W0.0#0@3 A1.0@4 W1.0#1@7");
            new Kept(8, 0).writes(0, 32, 1).pass(50)
                    .given("A0.0@0 W0.0#0@3 P0@14 A0.1@17 W0.0#1@20 P0@31 A0.0@34 W0.1#2@37");
        });
        // The writing's age is 7 in cycle 7, but it is not among those looked at.
        Sentences.test("the oldest of them (an older writing is none of them)", () ->
                new Kept(8, 3).writes(96).reads(0).pass(4).reads(32, 1).pass(4)
                        .given("A0.0@0 R0.0#1@3 R0.1#3@7"));
        Sentences.test("the oldest of them (an older writing that is held is none of them)", () ->
                new Kept(3, 5).set(RCD, 30).reads(64).writes(64).pass(8).writes(8, 16).pass(3)
                        .given("A0.2@0 A1.0@8 A2.0@10"));
    }

    private static void quickFirst() {
        Sentences.test("The oldest of them whose row is open in its bank", () -> {
            Kept.with().reads(7, 0, 3).pass(50).given("A0.0@0 R0.7#0@3 R0.0#1@7 R0.3#2@11");
            Kept.with().writes(7, 0, 3).pass(50).given("A0.0@0 W0.7#0@3 W0.0#1@7 W0.3#2@11");
        });
        Sentences.test("whose row is open (an older one of another row comes later)", () -> {
            Kept.with().reads(0, 32, 1).pass(50)
                    .given("A0.0@0 R0.0#0@3 R0.1#2@7 P0@10 A0.1@13 R0.0#1@16");
            Kept.with().writes(0, 32, 1).pass(50)
                    .given("A0.0@0 W0.0#0@3 W0.1#2@7 P0@18 A0.1@21 W0.0#1@24");
        });
        Sentences.test("whose row is open in its bank (not the same row in another bank)", () ->
                Kept.with(RAS, 30).reads(0).pass(4).reads(40, 32).pass(27)
                        .given("A0.0@0 R0.0#0@3 A1.1@4 R1.0#1@7 P0@30"));
        Sentences.test("and whose READ or WRITE is allowed (that of an older one is not yet)", () ->
                Kept.with(RCD, 10).reads(8).pass(11).reads(0, 9).pass(20)
                        .given("A1.0@0 R1.0#0@10 A0.0@11 R1.1#2@14 R0.0#1@21"));
        Sentences.test("gets that (before an older one gets its ACTIVATE)", () ->
                Kept.with().reads(8).pass(7).reads(0, 9).pass(20)
                        .given("A1.0@0 R1.0#0@3 R1.1#2@7 A0.0@8 R0.0#1@11"));
        Sentences.test("it waits no more", () -> {
            Kept x = Kept.with().reads(0).writes(1).pass(3);
            x.state(1, 1);
            x.pass(1).state(1, 0);
            x.state(2, 1);
            x.pass(5).state(2, 1);
            x.pass(1).state(2, 0);
            x.given("A0.0@0 R0.0#0@3 W0.1#1@9");
        });
    }

    private static void openAndClose() {
        Sentences.test("If there is none: the oldest of them for which one of these is allowed", () -> {
            Kept.with().reads(0, 32, 8).pass(30)
                    .given("A0.0@0 A1.0@2 R0.0#0@3 R1.0#2@7 P0@8 A0.1@11 R0.0#1@14");
            // A PRECHARGE for the older one goes before an ACTIVATE for the younger one.
            Kept.with().reads(0).pass(10).reads(32, 8).pass(2).given("A0.0@0 R0.0#0@3 P0@10 A1.0@11");
            Kept.with().reads(0).pass(10).reads(8, 32).pass(2).given("A0.0@0 R0.0#0@3 A1.0@10 P0@11");
        });
        Sentences.test("if its bank is closed, an ACTIVATE of its row", () ->
                Kept.with().reads(224, 0).pass(30)
                        .given("A0.7@0 R0.0#0@3 P0@7 A0.0@10 R0.0#1@13"));
        Sentences.test("if its bank has another row open (its own row stays open)", () ->
                Kept.with(CCD, 30).reads(0, 1).pass(50).given("A0.0@0 R0.0#0@3 R0.1#1@33"));
        // The PRECHARGE would be allowed from 7 on.
        Sentences.test("that none of those looked at wants", () ->
                Kept.with(CCD, 20).reads(0, 32, 1).pass(50)
                        .given("A0.0@0 R0.0#0@3 R0.1#2@23 P0@26 A0.1@29 R0.0#1@43"));
        Sentences.test("that none of those looked at wants (a writing beside readings is none)", () ->
                Kept.with().reads(0).pass(4).reads(32).writes(1).pass(26)
                        .given("A0.0@0 R0.0#0@3 P0@7 A0.1@10 R0.0#1@13 P0@17 A0.0@20 W0.1#2@23"));
        Sentences.test("that none of those looked at wants (a held writing is none)", () ->
                new Kept(2, 300).set(RCD, 30).reads(0).pass(1).writes(0, 32).pass(40)
                        .given("A0.0@0 P0@7 A0.1@10 W0.0#2@40"));
        Sentences.test("another row open that none wants (the same row of another bank may be wanted)", () ->
                Kept.with(RCD, 10).reads(0).pass(11).reads(32, 8).pass(3)
                        .given("A0.0@0 R0.0#0@10 A1.0@11 P0@13"));
    }
}
