/**
 * The promises call by call: what each answers at the edges of its arguments, which refusal comes
 * first, that a refused call changes nothing, and the limits of tickets, commands and calls.
 */
public final class BankKeeperCalls {
    private static final int RCD = Kept.RCD, RAS = Kept.RAS, REFI = Kept.REFI;
    private static final int MIN = Integer.MIN_VALUE, MAX = Integer.MAX_VALUE;
    private static final int[] NO_ADDRESSES = {MIN, -1, 256, 257, MAX};
    private static final int[] NO_PLACES = {MIN, -1, 72, 73, MAX};

    public static void main(String[] args) {
        newObject();
        timing();
        read();
        write();
        cycles();
        flip();
        status();
        value();
        state();
        command();
        bit();
        manyCalls();
        Sentences.end();
    }

    // ---- promise 1

    private static void newObject() {
        Sentences.test("QUEUE is queue", () -> {
            for (int queue = 2; queue <= 8; queue++) {
                queueIs(queue, queue);
            }
        });
        Sentences.test("QUEUE is .. at least 2", () -> {
            queueIs(1, 2);
            queueIs(0, 2);
            queueIs(-1, 2);
            queueIs(MIN, 2);
        });
        Sentences.test("QUEUE is .. at most 8", () -> {
            queueIs(9, 8);
            queueIs(100, 8);
            queueIs(MAX, 8);
        });
        Sentences.test("CAP is cap", () -> {
            for (int cap = 0; cap <= 6; cap++) {
                capIs(cap, cap);
            }
            highCapIs(299, 299);
            highCapIs(300, 300);
        });
        Sentences.test("CAP is .. at least 0", () -> {
            capIs(-1, 0);
            capIs(-2, 0);
            capIs(MIN, 0);
        });
        Sentences.test("CAP is .. at most 300", () -> {
            highCapIs(301, 300);
            highCapIs(302, 300);
            highCapIs(MAX, 300);
        });
        Sentences.test("A new object", () -> {
            Kept x = new Kept(4, 20);
            int[] due = {0, 0, 0, 0, 0, 0, 0, 0, 0, -1, -1, -1, -1, -1};
            for (int what = 0; what < due.length; what++) {
                x.state(what, due[what]);
            }
            x.command(0, 0, -1);
            x.status(0, -1);
            x.value(0, 0L);
        });
    }

    private static void queueIs(int queue, int due) {
        Kept x = new Kept(queue, 300);
        for (int i = 0; i < due; i++) {
            x.read(i, 2 * i);
            x.write(100 + i, 1L, 2 * i + 1);
        }
        x.read(50, -2);
        x.write(51, 1L, -2);
    }

    /** In cycle 11 an older reading of another row goes first if its age is above the cap. */
    private static void capIs(int cap, int due) {
        for (int age = 0; age <= 7; age++) {
            Kept x = new Kept(8, cap).set(RAS, 11, Kept.CCD, 8).reads(0).pass(11 - age).reads(32, 1);
            x.pass(age + 1).given("A0.0@0 R0.0#0@3 " + (age > due ? "P0@11" : "R0.1#2@11"));
        }
    }

    /**
     * A reading of row 1 is passed over by quick ones of row 0 up to the age of the cap. Cycle 307
     * is a READ's, like every fourth before it, and the PRECHARGE is allowed from 306 on.
     */
    private static void highCapIs(int cap, int due) {
        for (int came = 5; came <= 7; came++) {
            Kept x = new Kept(8, cap).set(REFI, 400).reads(0).pass(came).reads(32, 1);
            // With two quick ones at first, one of them wants row 0 in every cycle.
            for (int i = 0; i < 74; i++) {
                x.reads(1).pass(4);
            }
            x.reads(1).pass(12 - came);
            int above = came + due + 1;
            x.command(0, 0, above <= 307 ? 1 : 2);
            x.command(0, 3, above <= 307 ? Math.max(306, above) : 307);
        }
    }

    // ---- promise 2

    private static void timing() {
        Sentences.test("Sets a timing: true.", () -> {
            for (int which = 0; which <= 12; which++) {
                for (int v = 1; v <= 30; v++) {
                    new Kept(4, 20).timing(which, v, true);
                }
            }
            for (int v = 60; v <= 400; v++) {
                new Kept(4, 20).timing(REFI, v, true);
            }
        });
        Sentences.test("Sets a timing (the latest one holds)", () ->
                Kept.with(RCD, 30, RCD, 1, RCD, 5).reads(0).pass(20).given("A0.0@0 R0.0#0@5"));
        Sentences.test("False when there was a cycle", () -> {
            Kept x = Kept.with().reads(0).pass(1);
            for (int which = 0; which <= 13; which++) {
                x.timing(which, which == REFI ? 60 : 1, false);
            }
            x.pass(60).given("A0.0@0 R0.0#0@3");
            x.timing(RCD, 5, false);
        });
        Sentences.test("when there was a cycle (no cycle is none, nor is a refused call)", () -> {
            Kept x = Kept.with().reads(0);
            x.cycles(0, 0);
            x.cycles(-1, -1);
            x.cycles(301, -1);
            x.timing(RCD, 5, true);
            x.pass(20).given("A0.0@0 R0.0#0@5");
        });
        Sentences.test("False when .. which is not 0 .. 13", () -> {
            int[] none = {MIN, -1, 14, 15, MAX};
            for (int which : none) {
                new Kept(4, 20).timing(which, 5, false);
                new Kept(4, 20).timing(which, 100, false);
            }
        });
        Sentences.test("False when .. v is not 1 .. 30", () -> {
            int[] none = {MIN, -1, 0, 31, 60, 400, MAX};
            for (int which = 0; which <= 12; which++) {
                for (int v : none) {
                    new Kept(4, 20).timing(which, v, false);
                }
            }
        });
        Sentences.test("(60 .. 400 for REFI)", () -> {
            int[] none = {MIN, -60, 0, 1, 30, 59, 401, MAX};
            for (int v : none) {
                new Kept(4, 20).timing(REFI, v, false);
            }
        });
        Sentences.test("False (and the timing stays as it was)", () -> {
            Kept x = Kept.with(RCD, 5, REFI, 60);
            x.timing(RCD, 31, false);
            x.timing(RCD, 0, false);
            x.timing(REFI, 59, false);
            x.timing(REFI, 401, false);
            x.timing(14, 9, false);
            x.reads(0).pass(80).given("A0.0@0 R0.0#0@5 P0@60 F@63");
        });
    }

    // ---- promise 3

    private static void read() {
        Sentences.test("A READING comes: its ticket.", () -> {
            Kept x = new Kept(4, 20);
            x.read(0, 0);
            x.read(255, 1);
            x.read(0, 2);
            x.state(8, 3);
            x.state(1, 3);
        });
        Sentences.test("read: -1 when there is no such address", () -> {
            for (int address : NO_ADDRESSES) {
                Kept x = Kept.with().reads(0);
                x.unchangedBy(() -> x.read(address, -1));
                x.read(1, 1);
            }
        });
        Sentences.test("read: -2 when .. as many readings as QUEUE wait", () -> {
            for (int queue = 2; queue <= 8; queue++) {
                Kept x = new Kept(queue, 300);
                for (int i = 0; i < queue; i++) {
                    x.read(i, i);
                }
                x.unchangedBy(() -> x.read(9, -2));
                // A reading gives way with its READ, in cycle 3.
                x.pass(3).read(9, -2);
                x.pass(1).read(9, queue);
                x.read(9, -2);
            }
        });
        Sentences.test("read: -2 when it is not DONE at once", () -> {
            Kept x = new Kept(2, 300).writes(7).reads(0, 1);
            x.read(2, -2);
            x.read(7, 3);
            x.status(3, 2);
            x.state(1, 2);
        });
        Sentences.test("read: -3 when there are 400 tickets", () -> {
            Kept x = manyTickets(399, 0);
            x.read(2, 399);
            x.unchangedBy(() -> x.read(3, -3));
            x.state(8, 400);
        });
        Sentences.test("read: -3 when there are 400 tickets (though it would be DONE at once)", () -> {
            Kept x = manyTickets(399, 1);
            x.read(0, 399);
            x.status(399, 2);
            x.read(0, -3);
            x.state(8, 400);
        });
        Sentences.test("read: (The first that is so.): -1 before -2", () -> {
            Kept x = new Kept(2, 300).reads(0, 1);
            x.read(256, -1);
            x.read(2, -2);
        });
        Sentences.test("read: (The first that is so.): -1 and -2 before -3", () -> {
            Kept x = manyTickets(400, 2);
            x.read(-1, -1);
            x.read(3, -2);
            x.read(0, -3);
        });
    }

    /** A keeper of QUEUE 2 with so many tickets: a writing of 0 and some readings wait. */
    private static Kept manyTickets(int tickets, int readings) {
        Kept x = new Kept(2, 300).writes(0);
        for (int i = 1; i <= readings; i++) {
            x.reads(i);
        }
        for (int i = readings + 1; i < tickets; i++) {
            x.read(0, i);
        }
        return x;
    }

    // ---- promise 4

    private static void write() {
        Sentences.test("A WRITING comes: its ticket.", () -> {
            Kept x = new Kept(4, 20);
            x.write(0, Long.MIN_VALUE, 0);
            x.write(255, -1L, 1);
            x.write(0, 0L, 2);
            x.state(8, 3);
            x.state(2, 3);
        });
        Sentences.test("write: -1 when there is no such address", () -> {
            for (int address : NO_ADDRESSES) {
                Kept x = Kept.with().writes(0);
                x.unchangedBy(() -> x.write(address, 1L, -1));
                x.write(1, 1L, 1);
            }
        });
        Sentences.test("write: -2 when as many writings as QUEUE wait", () -> {
            for (int queue = 2; queue <= 8; queue++) {
                Kept x = new Kept(queue, 300);
                for (int i = 0; i < queue; i++) {
                    x.write(i, 1L, i);
                }
                x.unchangedBy(() -> x.write(9, 1L, -2));
                // One that waits already is no room for another of its address.
                x.write(0, 2L, -2);
                x.pass(3).write(9, 1L, -2);
                x.pass(1).write(9, 1L, queue);
                x.write(9, 1L, -2);
            }
        });
        Sentences.test("write: -3 when there are 400 tickets", () -> {
            Kept x = manyTickets(399, 1);
            x.write(1, 1L, 399);
            x.pass(100).state(2, 0);
            x.unchangedBy(() -> x.write(1, 1L, -3));
            x.state(8, 400);
        });
        Sentences.test("write: (The first that is so.): -1 before -2", () -> {
            Kept x = new Kept(2, 300).writes(0, 1);
            x.write(256, 1L, -1);
            x.write(2, 1L, -2);
        });
        Sentences.test("write: (The first that is so.): -1 and -2 before -3", () -> {
            Kept x = manyTickets(399, 1);
            x.write(1, 1L, 399);
            x.write(-1, 1L, -1);
            x.write(1, 1L, -2);
        });
    }

    // ---- promise 5

    private static void cycles() {
        Sentences.test("n cycles: how many commands were given.", () -> {
            Kept x = new Kept(4, 20).reads(0);
            x.cycles(1, 1);
            x.cycles(2, 0);
            x.cycles(1, 1);
            x.cycles(300, 3);
            x.given("A0.0@0 R0.0#0@3 P0@120 F@123 F@240");
        });
        Sentences.test("n cycles (0, the smallest number)", () -> {
            Kept x = new Kept(4, 20).reads(0);
            x.unchangedBy(() -> x.cycles(0, 0));
        });
        Sentences.test("n cycles (300, the largest number)", () -> {
            Kept x = new Kept(4, 20);
            x.cycles(300, 2);
            x.state(0, 300);
        });
        Sentences.test("cycles: -1 when n is not 0 .. 300", () -> {
            int[] none = {MIN, -300, -1, 301, 302, MAX};
            for (int n : none) {
                Kept x = new Kept(4, 20).reads(0);
                x.unchangedBy(() -> x.cycles(n, -1));
            }
        });
        Sentences.test("n cycles (one by one, or all at once)", () -> {
            Kept x = new Kept(4, 20).reads(0, 32, 8).writes(1, 40);
            Kept y = new Kept(4, 20).reads(0, 32, 8).writes(1, 40).pass(150);
            for (int i = 0; i < 150; i++) {
                x.pass(1);
            }
            // From 21 on the age of the older writing is above the cap, and the other one waits for it.
            String due = "A0.0@0 A1.0@2 R0.0#0@3 R1.0#2@7 P0@8 A0.1@11 R0.0#1@14 P1@15 P0@18 A1.1@19 A0.0@21"
                    + " W0.1#3@24 W1.0#4@28 P0@120 P1@121 F@124";
            x.given(due);
            y.given(due);
        });
    }

    // ---- promise 6

    private static void flip() {
        Sentences.test("The bit at a place of the word at an address flips: true", () -> {
            int[] addresses = {0, 31, 32, 255};
            for (int address : addresses) {
                for (int place = 0; place < 72; place++) {
                    Kept x = new Kept(4, 20);
                    x.flip(address, place, true);
                    x.ones(address, place);
                    x.flip(address, place, true);
                    x.ones(address);
                }
            }
        });
        Sentences.test("The bit .. of the word at an address flips (of no other)", () -> {
            Kept x = new Kept(4, 20).flips(31, 64);
            x.ones(30);
            x.ones(32);
            x.ones(31, 64);
        });
        Sentences.test("flip: false when there is none such (address)", () -> {
            for (int address : NO_ADDRESSES) {
                Kept x = new Kept(4, 20);
                x.unchangedBy(() -> x.flip(address, 3, false));
                x.ones(address & 255);
            }
        });
        Sentences.test("flip: false when there is none such (place)", () -> {
            for (int place : NO_PLACES) {
                Kept x = new Kept(4, 20);
                x.unchangedBy(() -> x.flip(9, place, false));
                x.ones(9);
                x.ones(10);
            }
        });
    }

    // ---- promise 7

    private static void status() {
        Sentences.test("Of a ticket: 0 it waits, 1 its READ was given, 2 DONE", () -> {
            Kept x = new Kept(4, 20).reads(0);
            x.status(0, 0);
            x.pass(3).status(0, 0);
            x.pass(1).status(0, 1);
            x.pass(7).status(0, 1);
            x.pass(1).status(0, 2);
            x.pass(300).status(0, 2);
        });
        Sentences.test("Of a ticket (a writing): 0 it waits, 2 DONE", () -> {
            Kept x = new Kept(4, 20).writes(0).pass(3);
            x.status(0, 0);
            x.pass(1).status(0, 2);
        });
        Sentences.test("3 DONE and PUT RIGHT (1 before)", () -> {
            Kept x = new Kept(4, 20).flips(0, 71).reads(0).pass(11);
            x.status(0, 1);
            x.pass(1).status(0, 3);
        });
        Sentences.test("4 DONE and BAD (1 before)", () -> {
            Kept x = new Kept(4, 20).flips(0, 71, 70).reads(0).pass(11);
            x.status(0, 1);
            x.pass(1).status(0, 4);
        });
        Sentences.test("status: -1 when there is none such", () -> {
            Kept x = new Kept(4, 20);
            x.status(0, -1);
            x.reads(0);
            x.status(0, 0);
            x.status(1, -1);
            x.status(-1, -1);
            x.status(400, -1);
            x.status(MIN, -1);
            x.status(MAX, -1);
            x = manyTickets(400, 1);
            x.status(399, 2);
            x.status(400, -1);
        });
        Sentences.test("status: there is none such (a refused request has no ticket)", () -> {
            Kept x = new Kept(2, 20).reads(0, 1);
            x.read(2, -2);
            x.read(256, -1);
            x.status(2, -1);
            x.writes(5).status(2, 0);
        });
    }

    // ---- promise 8

    private static void value() {
        Sentences.test("What a ticket reads (0 as long as no READ was given)", () -> {
            Kept x = Kept.with().writes(0).pass(20).reads(0);
            x.value(1, 0L);
            x.pass(1).value(1, 1000L);
            x.status(1, 1);
            x.pass(30).value(1, 1000L);
        });
        Sentences.test("What a ticket .. writes", () -> {
            Kept x = Kept.with();
            x.write(0, Long.MIN_VALUE, 0);
            x.write(0, -1L, 1);
            x.value(0, Long.MIN_VALUE);
            x.value(1, -1L);
            x.pass(30).flips(0, 3);
            x.value(0, Long.MIN_VALUE);
            x.value(1, -1L);
        });
        Sentences.test("value: 0 when there is none such", () -> {
            Kept x = Kept.with();
            x.value(0, 0L);
            x.writes(5);
            x.value(0, 1005L);
            x.value(1, 0L);
            x.value(-1, 0L);
            x.value(400, 0L);
            x.value(MIN, 0L);
            x.value(MAX, 0L);
            x = manyTickets(400, 1);
            x.value(399, 1000L);
            x.value(400, 0L);
        });
    }

    // ---- promise 9

    private static void state() {
        Sentences.test("0 NOW, 1 how many readings wait, 2 writings, .. 8 tickets, 10 + b the row", () -> {
            Kept x = new Kept(4, 20).reads(40).writes(213, 213).reads(213).pass(5);
            int[] due = {5, 0, 2, 0, 1, 3, 0, 0, 4, -1, -1, 1, 6, -1};
            for (int what = 0; what < due.length; what++) {
                x.state(what, due[what]);
            }
        });
        Sentences.test("3 how many refreshes are owed, 6 how many words REFRESHES put right, 7 the next one", () -> {
            Kept x = new Kept(4, 20).flips(1, 9).pass(119).reads(0).pass(2);
            x.state(3, 1);
            x.state(6, 0);
            x.state(7, 0);
            x.pass(10).given("A0.0@119 R0.0#0@122 P0@126 F@129");
            x.state(3, 0);
            x.state(6, 1);
            x.state(7, 2);
        });
        Sentences.test("5 how many commands were given (more than are kept)", () -> {
            Kept x = Kept.with(REFI, 60).pass(33 * 60);
            x.state(5, 32);
            x.pass(1).state(5, 33);
        });
        Sentences.test("10 + b (0 .. 3) the row that is open in bank b, or -1", () -> {
            Kept x = Kept.with().reads(224, 8 + 32, 16, 24 + 96).pass(20);
            x.state(10, 7);
            x.state(11, 1);
            x.state(12, 0);
            x.state(13, 3);
            x.pass(130);
            for (int bank = 0; bank < 4; bank++) {
                x.state(10 + bank, -1);
            }
        });
        Sentences.test("state: -1 for others", () -> {
            Kept x = Kept.with().reads(0, 8, 16, 24).pass(20);
            int[] others = {MIN, -10, -1, 9, 14, 15, MAX};
            for (int what : others) {
                x.state(what, -1);
            }
        });
    }

    // ---- promise 10

    private static void command() {
        Sentences.test("0 which, 1 its bank (-1 for REFRESH), 2 the row .. (-1 for others), 3 its cycle, 4 the ticket", () -> {
            Kept x = new Kept(4, 20).reads(213).pass(121).writes(3).pass(40);
            int[][] due = {
                {4, -1, -1, 138, -1}, {1, 0, -1, 135, -1}, {3, 0, 3, 124, 1}, {0, 0, 0, 121, -1},
                {1, 2, -1, 120, -1}, {2, 2, 5, 3, 0}, {0, 2, 6, 0, -1}};
            for (int k = 0; k < due.length; k++) {
                for (int what = 0; what <= 4; what++) {
                    x.command(k, what, due[k][what]);
                }
            }
        });
        Sentences.test("Of the k-th latest command (0 the latest, up to 31)", () -> {
            Kept x = Kept.with(REFI, 60).pass(40 * 60 + 1);
            for (int k = 0; k <= 31; k++) {
                x.command(k, 3, (40 - k) * 60);
            }
        });
        Sentences.test("up to 31 (32 is too far, though it was given)", () -> {
            Kept x = Kept.with(REFI, 60).pass(40 * 60 + 1);
            for (int what = 0; what <= 4; what++) {
                x.command(32, what, -1);
                x.command(33, what, -1);
            }
        });
        Sentences.test("command: -1 when there is none (so many were not given yet)", () -> {
            Kept x = Kept.with(REFI, 60);
            for (int given = 0; given <= 33; given++) {
                if (given > 0) {
                    x.command(given - 1, 3, given == 33 ? -1 : 60);
                }
                x.command(given, 3, -1);
                x.pass(given == 0 ? 61 : 60);
            }
        });
        Sentences.test("command: -1 when there is none (a number below 0, or a large one)", () -> {
            Kept x = Kept.with(REFI, 60).pass(40 * 60 + 1);
            int[] none = {MIN, -32, -1, 40, MAX};
            for (int k : none) {
                for (int what = 0; what <= 4; what++) {
                    x.command(k, what, -1);
                }
            }
        });
        Sentences.test("command: -1 when .. what is not 0 .. 4", () -> {
            Kept x = Kept.with(REFI, 60).reads(0).pass(300);
            int[] none = {MIN, -1, 5, 6, MAX};
            for (int what : none) {
                for (int k = 0; k < 4; k++) {
                    x.command(k, what, -1);
                }
            }
        });
    }

    // ---- promise 11

    private static void bit() {
        Sentences.test("The bit at a place of what is stored at an address", () -> {
            Kept x = new Kept(4, 20);
            x.write(255, 1L, 0);
            x.bit(255, 3, 0);
            x.pass(20).ones(255, 0, 1, 2, 3);
            x.ones(254);
        });
        Sentences.test("bit: -1 when there is none such (address)", () -> {
            for (int address : NO_ADDRESSES) {
                Kept x = new Kept(4, 20);
                x.unchangedBy(() -> x.bit(address, 0, -1));
                x.bit(address, 71, -1);
            }
        });
        Sentences.test("bit: -1 when there is none such (place)", () -> {
            for (int place : NO_PLACES) {
                Kept x = new Kept(4, 20);
                x.bit(0, place, -1);
                x.bit(255, place, -1);
            }
        });
    }

    // ---- limits of an object

    private static void manyCalls() {
        Sentences.test("An object is used for at most 512 calls (the last one answers yet)", () -> {
            longest().state(0, 511 * 300);
            longest().state(3, 0);
            // The last multiple of 120 is 1277 * 120 = 153240; 2554 words were scrubbed.
            longest().state(5, 1277);
            longest().state(7, 2554 - 9 * 256);
            longest().command(31, 3, 1246 * 120);
            longest().read(255, 0);
        });
        Sentences.test("TICKETS 0, 1, .., at most 400", () -> {
            Kept x = new Kept(2, 0);
            for (int i = 0; i < 400; i++) {
                if (i > 0 && i % 8 == 0) {
                    x.pass(100);
                }
                if (i % 4 == 0) {
                    x.write(i & 255, i, i);
                } else {
                    x.read(i & 252, i);
                }
            }
            x.value(399, 396L);
            x.pass(100).read(0, -3);
            x.write(255, 0L, -3);
            x.state(8, 400);
        });
    }

    /** An object with 511 calls behind it, of the longest kind. */
    private static Kept longest() {
        Kept x = new Kept(4, 20);
        for (int i = 0; i < 511; i++) {
            x.pass(300);
        }
        return x;
    }
}
