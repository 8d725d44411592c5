import java.util.ArrayList;
import java.util.List;
import java.util.Random;

/**
 * Compares BankKeeper, over many runs of at most 512 calls, with a slow keeper that is written in
 * another way: it holds every command that was ever given, and every word as 72 booleans, and
 * works out all else from these anew. The runs come from fixed seeds.
 */
public final class BankKeeperAgainstModel {
    private static final int RUNS = 1500;

    public static void main(String[] args) {
        int wrong = 0;
        for (int seed = 0; seed < RUNS; seed++) {
            wrong += new Run(seed).wrong();
        }
        System.out.println(wrong == 0 ? RUNS + " runs are as the model's" : wrong + " runs differ");
        if (wrong != 0) {
            System.exit(1);
        }
    }

    private static final class Run {
        private static final int[] EDGES = {-1, 256, 72, 14, 400, Integer.MIN_VALUE, Integer.MAX_VALUE};
        private final int seed;
        private final Random random;
        private final BankKeeper keeper;
        private final Model model;
        // How often a run asks, how long its cycles are, and how close its addresses lie.
        private final int requestsOfTen;
        private final int longestCycles;
        private final int rows;
        private final int banks;
        private final int columns;

        Run(int seed) {
            this.seed = seed;
            random = new Random(seed);
            int queue = random.nextInt(14) - 1;
            int cap = random.nextInt(3) == 0 ? random.nextInt(400) - 20 : random.nextInt(40);
            keeper = new BankKeeper(queue, cap);
            model = new Model(queue, cap);
            requestsOfTen = 1 + random.nextInt(9);
            longestCycles = new int[] {2, 6, 15, 40, 120, 300}[random.nextInt(6)];
            rows = 1 + random.nextInt(8);
            banks = 1 + random.nextInt(4);
            columns = 1 + random.nextInt(8);
        }

        int wrong() {
            int calls = random.nextInt(20);
            for (int i = 0; i < calls; i++) {
                if (differs(1)) {
                    return 1;
                }
            }
            for (int i = calls; i < 512; i++) {
                if (differs(kind())) {
                    return 1;
                }
            }
            return 0;
        }

        private int timingValue() {
            switch (random.nextInt(4)) {
                case 0: return 1 + random.nextInt(3);
                case 1: return 25 + random.nextInt(6);
                case 2: return 55 + random.nextInt(350);
                default: return random.nextInt(33) - 1;
            }
        }

        private int kind() {
            if (random.nextInt(10) < requestsOfTen) {
                return random.nextInt(5) < 3 ? 2 : 3;
            }
            return random.nextInt(3) == 0 ? 4 : 1 + random.nextInt(10);
        }

        private int address() {
            if (random.nextInt(60) == 0) {
                return odd();
            }
            return random.nextInt(columns) + 8 * random.nextInt(banks) + 32 * random.nextInt(rows);
        }

        private int place() {
            return random.nextInt(60) == 0 ? odd() : random.nextInt(72);
        }

        private int ticket() {
            return random.nextInt(30) == 0 ? odd() : Math.max(0, model.tickets() - random.nextInt(12));
        }

        private int odd() {
            return EDGES[random.nextInt(EDGES.length)];
        }

        private boolean differs(int kind) {
            switch (kind) {
                case 1: {
                    int which = random.nextInt(30) == 0 ? odd() : random.nextInt(16) - 1;
                    int v = timingValue();
                    return told("timing(" + which + ", " + v + ")", keeper.timing(which, v) ? 1 : 0, model.timing(which, v) ? 1 : 0);
                }
                case 2: {
                    int address = address();
                    return told("read(" + address + ")", keeper.read(address), model.read(address));
                }
                case 3: {
                    int address = address();
                    long word = random.nextInt(4) == 0 ? random.nextInt(3) - 1 : random.nextLong();
                    return told("write(" + address + ", " + word + ")", keeper.write(address, word), model.write(address, word));
                }
                case 4: {
                    int n = random.nextInt(100) == 0 ? (random.nextBoolean() ? 301 : -1) : random.nextInt(longestCycles + 1);
                    return told("cycles(" + n + ")", keeper.cycles(n), model.cycles(n));
                }
                case 5: {
                    // Near the words that are read, and near those that are scrubbed next.
                    int address = random.nextBoolean() ? address() : model.state(7) + random.nextInt(3);
                    int place = place();
                    return told("flip(" + address + ", " + place + ")", keeper.flip(address, place) ? 1 : 0, model.flip(address, place) ? 1 : 0);
                }
                case 6: {
                    int ticket = ticket();
                    return told("status(" + ticket + ")", keeper.status(ticket), model.status(ticket));
                }
                case 7: {
                    int ticket = ticket();
                    return told("value(" + ticket + ")", keeper.value(ticket), model.value(ticket));
                }
                case 8: {
                    int what = random.nextInt(30) == 0 ? odd() : random.nextInt(17) - 1;
                    return told("state(" + what + ")", keeper.state(what), model.state(what));
                }
                case 9: {
                    int k = random.nextInt(30) == 0 ? odd() : random.nextInt(2) == 0 ? random.nextInt(4) : random.nextInt(36);
                    int what = random.nextInt(30) == 0 ? odd() : random.nextInt(7) - 1;
                    return told("command(" + k + ", " + what + ")", keeper.command(k, what), model.command(k, what));
                }
                default: {
                    int address = address();
                    int place = place();
                    return told("bit(" + address + ", " + place + ")", keeper.bit(address, place), model.bit(address, place));
                }
            }
        }

        private boolean told(String call, long got, long want) {
            if (got == want) {
                return false;
            }
            System.out.println("seed " + seed + ": " + call + " answered " + got + ", the model answers " + want);
            return true;
        }
    }

    private record Command(int which, int bank, int detail, int cycle, int ticket) { }

    private static final class Request {
        int ticket;
        int address;
        boolean writes;
        boolean waits;
        long word;
        int came;
        int status;
        int verdict = 2;
        int readIn = -1;

        int bank() {
            return (address & 31) >> 3;
        }

        int row() {
            return address >> 5;
        }
    }

    private static final class Model {
        private final int queue;
        private final int cap;
        private final int[] timings = {3, 3, 7, 10, 2, 9, 4, 4, 3, 3, 4, 3, 12, 120};
        private final boolean[][] stored = new boolean[256][72];
        private final List<Command> given = new ArrayList<>();
        private final List<Request> requests = new ArrayList<>();
        private final int[] open = {-1, -1, -1, -1};
        private int now = 0;
        private int owed = 0;
        private boolean drains = false;
        private int putRight = 0;
        private int scrub = 0;

        Model(int queue, int cap) {
            this.queue = queue < 2 ? 2 : queue > 8 ? 8 : queue;
            this.cap = cap < 0 ? 0 : cap > 300 ? 300 : cap;
        }

        int tickets() {
            return requests.size();
        }

        boolean timing(int which, int v) {
            if (now > 0 || which < 0 || which > 13) {
                return false;
            }
            if (which == 13 ? v < 60 || v > 400 : v < 1 || v > 30) {
                return false;
            }
            timings[which] = v;
            return true;
        }

        int read(int address) {
            if (address < 0 || address > 255) {
                return -1;
            }
            Request latest = null;
            for (Request r : waiting(true)) {
                latest = r.address == address ? r : latest;
            }
            if (latest == null && waiting(false).size() == queue) {
                return -2;
            }
            if (requests.size() == 400) {
                return -3;
            }
            Request reading = come(address, false);
            if (latest != null) {
                reading.waits = false;
                reading.status = 2;
                reading.word = latest.word;
            }
            return reading.ticket;
        }

        int write(int address, long word) {
            if (address < 0 || address > 255) {
                return -1;
            }
            if (waiting(true).size() == queue) {
                return -2;
            }
            if (requests.size() == 400) {
                return -3;
            }
            Request writing = come(address, true);
            writing.word = word;
            return writing.ticket;
        }

        private Request come(int address, boolean writes) {
            Request r = new Request();
            r.ticket = requests.size();
            r.address = address;
            r.writes = writes;
            r.waits = true;
            r.came = now;
            requests.add(r);
            return r;
        }

        private List<Request> waiting(boolean writes) {
            List<Request> found = new ArrayList<>();
            for (Request r : requests) {
                if (r.waits && r.writes == writes) {
                    found.add(r);
                }
            }
            return found;
        }

        private List<Request> notHeld() {
            List<Request> found = new ArrayList<>();
            for (Request w : waiting(true)) {
                boolean held = false;
                for (Request r : waiting(false)) {
                    held |= r.address == w.address && r.ticket < w.ticket;
                }
                if (!held) {
                    found.add(w);
                }
            }
            return found;
        }

        int cycles(int n) {
            if (n < 0 || n > 300) {
                return -1;
            }
            int before = given.size();
            for (int i = 0; i < n; i++) {
                cycle();
                now++;
            }
            return given.size() - before;
        }

        private void cycle() {
            if (now > 0 && now % timings[13] == 0) {
                owed++;
            }
            for (Request r : requests) {
                if (r.readIn >= 0 && r.readIn + timings[10] + 4 == now) {
                    r.status = r.verdict;
                }
            }
            List<Request> reads = waiting(false);
            List<Request> writes = waiting(true);
            if (owed >= 6 || owed > 0 && reads.isEmpty() && writes.isEmpty()) {
                refresh();
                return;
            }
            if (!writes.isEmpty() && reads.isEmpty() || writes.size() == queue) {
                drains = true;
            }
            if (writes.isEmpty() || !reads.isEmpty() && 2 * writes.size() <= queue) {
                drains = false;
            }
            List<Request> looked = drains ? notHeld() : reads;
            if (looked.isEmpty()) {
                looked = drains ? reads : notHeld();
            }
            if (!looked.isEmpty() && now - looked.get(0).came > cap) {
                looked = looked.subList(0, 1);
            }
            serve(looked);
        }

        private void refresh() {
            boolean closed = true;
            for (int bank = 0; bank < 4; bank++) {
                closed &= open[bank] == -1;
            }
            if (closed) {
                boolean allowed = behind(4, -1, timings[12]);
                for (int bank = 0; bank < 4; bank++) {
                    allowed &= behind(1, bank, timings[1]);
                }
                if (allowed) {
                    given.add(new Command(4, -1, -1, now, -1));
                    owed--;
                    scrub();
                    scrub();
                }
                return;
            }
            for (int bank = 0; bank < 4; bank++) {
                if (mayPrecharge(bank)) {
                    precharge(bank);
                    return;
                }
            }
        }

        private void scrub() {
            int place = flipped(stored[scrub]);
            if (place >= 0) {
                stored[scrub][place] = !stored[scrub][place];
                putRight++;
            }
            scrub = scrub == 255 ? 0 : scrub + 1;
        }

        private void precharge(int bank) {
            given.add(new Command(1, bank, -1, now, -1));
            open[bank] = -1;
        }

        private void serve(List<Request> looked) {
            for (Request r : looked) {
                if (open[r.bank()] == r.row() && (r.writes ? mayWrite(r.bank()) : mayRead(r.bank()))) {
                    given.add(new Command(r.writes ? 3 : 2, r.bank(), r.address & 7, now, r.ticket));
                    r.waits = false;
                    if (r.writes) {
                        r.status = 2;
                        stored[r.address] = encoded(r.word);
                    } else {
                        take(r);
                    }
                    return;
                }
            }
            for (Request r : looked) {
                if (open[r.bank()] == -1 && mayActivate(r.bank())) {
                    given.add(new Command(0, r.bank(), r.row(), now, -1));
                    open[r.bank()] = r.row();
                    return;
                }
                boolean wanted = false;
                for (Request other : looked) {
                    wanted |= other.bank() == r.bank() && other.row() == open[r.bank()];
                }
                if (open[r.bank()] != -1 && open[r.bank()] != r.row() && !wanted && mayPrecharge(r.bank())) {
                    precharge(r.bank());
                    return;
                }
            }
        }

        private void take(Request r) {
            boolean[] bits = stored[r.address].clone();
            int place = flipped(bits);
            if (place >= 0) {
                bits[place] = !bits[place];
            }
            r.verdict = place == -1 ? 2 : place == -2 ? 4 : 3;
            r.word = decoded(bits);
            r.readIn = now;
            r.status = 1;
        }

        /** Whether the latest command of a kind (of a bank, or of any with -1) is so far behind. */
        private boolean behind(int which, int bank, int far) {
            return behind(which, bank, far, 1);
        }

        private boolean behind(int which, int bank, int far, int nth) {
            int seen = 0;
            for (int i = given.size() - 1; i >= 0; i--) {
                Command c = given.get(i);
                // No timing or sum of them reaches this far.
                if (now - c.cycle() > 400) {
                    return true;
                }
                if (c.which() == which && (bank == -1 || c.bank() == bank) && ++seen == nth) {
                    return now - c.cycle() >= far;
                }
            }
            return true;
        }

        private boolean mayActivate(int bank) {
            return behind(1, bank, timings[1]) && behind(0, bank, timings[3]) && behind(0, -1, timings[4])
                    && behind(0, -1, timings[5], 4) && behind(4, -1, timings[12]);
        }

        private boolean mayPrecharge(int bank) {
            return open[bank] != -1 && behind(0, bank, timings[2]) && behind(2, bank, timings[9])
                    && behind(3, bank, timings[11] + 4 + timings[7]);
        }

        private boolean mayRead(int bank) {
            return column(bank) && behind(3, -1, timings[11] + 4 + timings[8]) && busIsFree(now + timings[10], 2);
        }

        private boolean mayWrite(int bank) {
            return column(bank) && busIsFree(now + timings[11], 3);
        }

        private boolean column(int bank) {
            return behind(0, bank, timings[0]) && behind(2, -1, timings[6]) && behind(3, -1, timings[6]);
        }

        /** Looks at the cycles of all late bursts one by one, not only at the latest burst. */
        private boolean busIsFree(int from, int kind) {
            for (int i = given.size() - 1; i >= 0 && now - given.get(i).cycle() <= 400; i--) {
                Command c = given.get(i);
                if (c.which() == 2 || c.which() == 3) {
                    int begin = c.cycle() + timings[c.which() == 2 ? 10 : 11];
                    int free = begin + 4 + (c.which() == kind ? 0 : 1);
                    if (from < free) {
                        return false;
                    }
                }
            }
            return true;
        }

        private static boolean[] encoded(long word) {
            boolean[] bits = new boolean[72];
            int next = 0;
            for (int place = 1; place < 72; place++) {
                if (Integer.bitCount(place) != 1) {
                    bits[place] = (word >> next++ & 1) == 1;
                }
            }
            for (int check = 1; check <= 64; check <<= 1) {
                for (int place = 1; place < 72; place++) {
                    bits[check] ^= place != check && (place & check) != 0 && bits[place];
                }
            }
            for (int place = 1; place < 72; place++) {
                bits[0] ^= bits[place];
            }
            return bits;
        }

        private static long decoded(boolean[] bits) {
            long word = 0;
            int next = 0;
            for (int place = 1; place < 72; place++) {
                if (Integer.bitCount(place) != 1) {
                    word |= bits[place] ? 1L << next : 0;
                    next++;
                }
            }
            return word;
        }

        /** -1 for a right word, -2 for a bad one, otherwise the place that flipped. */
        private static int flipped(boolean[] bits) {
            int syndrome = 0;
            int ones = 0;
            for (int place = 0; place < 72; place++) {
                if (bits[place]) {
                    syndrome ^= place;
                    ones++;
                }
            }
            if (ones % 2 == 0) {
                return syndrome == 0 ? -1 : -2;
            }
            return syndrome > 71 ? -2 : syndrome;
        }

        boolean flip(int address, int place) {
            if (address < 0 || address > 255 || place < 0 || place > 71) {
                return false;
            }
            stored[address][place] = !stored[address][place];
            return true;
        }

        int status(int ticket) {
            return ticket < 0 || ticket >= requests.size() ? -1 : requests.get(ticket).status;
        }

        long value(int ticket) {
            return ticket < 0 || ticket >= requests.size() ? 0 : requests.get(ticket).word;
        }

        int state(int what) {
            int[] answers = {now, waiting(false).size(), waiting(true).size(), owed, drains ? 1 : 0, given.size(),
                putRight, scrub, requests.size(), -1, open[0], open[1], open[2], open[3]};
            return what < 0 || what >= answers.length ? -1 : answers[what];
        }

        int command(int k, int what) {
            if (k < 0 || k > 31 || k >= given.size() || what < 0 || what > 4) {
                return -1;
            }
            Command c = given.get(given.size() - 1 - k);
            return new int[] {c.which(), c.bank(), c.detail(), c.cycle(), c.ticket()}[what];
        }

        int bit(int address, int place) {
            if (address < 0 || address > 255 || place < 0 || place > 71) {
                return -1;
            }
            return stored[address][place] ? 1 : 0;
        }
    }
}
