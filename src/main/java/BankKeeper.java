/**
 * The keeper of a memory with banks: it takes readings and writings, and gives the memory one
 * command a cycle, none of them too early for any other; it serves first what is quick, but
 * nothing too late, refreshes in time, and keeps words with checks, by which a bit that flipped
 * is put right.
 */
public final class BankKeeper {
    private static final int ADDRESSES = 256;
    private static final int BANKS = 4;
    private static final int COLUMNS = 8;
    private static final int ROW_STEP = BANKS * COLUMNS;
    private static final int PLACES = 72;

    private static final int SMALLEST_QUEUE = 2;
    private static final int LARGEST_QUEUE = 8;
    private static final int LARGEST_CAP = 300;
    private static final int MOST_TICKETS = 400;
    private static final int MOST_CYCLES = 300;
    private static final int PRESSING_DEBT = 6;
    private static final int SCRUBBED_AT_ONCE = 2;
    private static final int BURST = 4;

    private static final int RCD = 0;
    private static final int RP = 1;
    private static final int RAS = 2;
    private static final int RC = 3;
    private static final int RRD = 4;
    private static final int FAW = 5;
    private static final int CCD = 6;
    private static final int WR = 7;
    private static final int WTR = 8;
    private static final int RTP = 9;
    private static final int CL = 10;
    private static final int CWL = 11;
    private static final int RFC = 12;
    private static final int REFI = 13;
    private static final int[] FIRST_TIMINGS = {3, 3, 7, 10, 2, 9, 4, 4, 3, 3, 4, 3, 12, 120};

    private static final int ACTIVATE = 0;
    private static final int PRECHARGE = 1;
    private static final int READ = 2;
    private static final int WRITE = 3;
    private static final int REFRESH = 4;

    private static final int WAITS = 0;
    private static final int READ_GIVEN = 1;
    private static final int DONE = 2;
    private static final int DONE_PUT_RIGHT = 3;
    private static final int DONE_BAD = 4;

    private static final int NONE = -1;
    private static final int NO_SUCH_ADDRESS = -1;
    private static final int QUEUE_IS_FULL = -2;
    private static final int TICKETS_ARE_OUT = -3;

    private final int queue;
    private final int cap;
    private final Banks banks;
    private final Store store;
    private final Requests requests;
    private final Line readings;
    private final Line writings;
    private final Line lookedAt;
    private final Journal journal;
    private int now;
    private int sinceOwed;
    private int owed;
    private boolean drains;
    private int wordsPutRight;
    private int nextScrubbed;

    public BankKeeper(int queue, int cap) {
        this.queue = Math.max(SMALLEST_QUEUE, Math.min(LARGEST_QUEUE, queue));
        this.cap = Math.max(0, Math.min(LARGEST_CAP, cap));
        banks = new Banks();
        store = new Store();
        requests = new Requests();
        readings = new Line();
        writings = new Line();
        lookedAt = new Line();
        journal = new Journal();
    }

    public boolean timing(int which, int v) {
        return now == 0 && banks.setTiming(which, v);
    }

    public int read(int address) {
        if (!isAddress(address)) {
            return NO_SUCH_ADDRESS;
        }
        int writing = latestWritingOf(address);
        if (writing == NONE && readings.size() >= queue) {
            return QUEUE_IS_FULL;
        }
        if (requests.areOut()) {
            return TICKETS_ARE_OUT;
        }
        int ticket = requests.take(address, false, now);
        if (writing == NONE) {
            readings.append(ticket);
        } else {
            requests.finish(ticket, requests.wordOf(writing), DONE, NONE);
        }
        return ticket;
    }

    public int write(int address, long word) {
        if (!isAddress(address)) {
            return NO_SUCH_ADDRESS;
        }
        if (writings.size() >= queue) {
            return QUEUE_IS_FULL;
        }
        if (requests.areOut()) {
            return TICKETS_ARE_OUT;
        }
        int ticket = requests.take(address, true, now);
        requests.setWord(ticket, word);
        writings.append(ticket);
        return ticket;
    }

    public int cycles(int n) {
        if (n < 0 || n > MOST_CYCLES) {
            return -1;
        }
        int before = journal.count();
        for (int i = 0; i < n; i++) {
            passCycle();
        }
        return journal.count() - before;
    }

    public boolean flip(int address, int place) {
        if (!isAddress(address) || !isPlace(place)) {
            return false;
        }
        store.turn(address, place);
        return true;
    }

    public int status(int ticket) {
        return requests.has(ticket) ? requests.stageOf(ticket, now) : -1;
    }

    public long value(int ticket) {
        return requests.has(ticket) ? requests.wordOf(ticket) : 0L;
    }

    public int state(int what) {
        switch (what) {
            case 0:
                return now;
            case 1:
                return readings.size();
            case 2:
                return writings.size();
            case 3:
                return owed;
            case 4:
                return drains ? 1 : 0;
            case 5:
                return journal.count();
            case 6:
                return wordsPutRight;
            case 7:
                return nextScrubbed;
            case 8:
                return requests.count();
            case 10:
            case 11:
            case 12:
            case 13:
                return banks.openRow(what - 10);
            default:
                return -1;
        }
    }

    public int command(int k, int what) {
        return journal.entry(k, what);
    }

    public int bit(int address, int place) {
        if (!isAddress(address) || !isPlace(place)) {
            return -1;
        }
        return store.bitAt(address, place);
    }

    private static boolean isAddress(int address) {
        return address >= 0 && address < ADDRESSES;
    }

    private static boolean isPlace(int place) {
        return place >= 0 && place < PLACES;
    }

    private static int columnOf(int address) {
        return address % COLUMNS;
    }

    private static int bankOf(int address) {
        return address / COLUMNS % BANKS;
    }

    private static int rowOf(int address) {
        return address / ROW_STEP;
    }

    /** The latest writing of an address that waits, or NONE. */
    private int latestWritingOf(int address) {
        for (int i = writings.size() - 1; i >= 0; i--) {
            if (requests.addressOf(writings.at(i)) == address) {
                return writings.at(i);
            }
        }
        return NONE;
    }

    // That readings whose burst ended are done needs no step of its own here: Requests.stageOf
    // tells it from the cycle in which the burst ends, and nothing else hangs on it.
    private void passCycle() {
        oweRefreshInTime();
        if (refreshGoesFirst()) {
            refreshOrClose();
        } else {
            beginOrEndDraining();
            lookAtRequests();
            if (!transferOldest()) {
                openOrCloseForOldest();
            }
        }
        now++;
    }

    // Counted, not worked out as NOW % REFI: so nothing divides by what a caller has set.
    private void oweRefreshInTime() {
        if (sinceOwed >= banks.refreshInterval()) {
            owed++;
            sinceOwed = 0;
        }
        sinceOwed++;
    }

    private boolean refreshGoesFirst() {
        boolean nothingWaits = readings.size() == 0 && writings.size() == 0;
        return owed >= PRESSING_DEBT || owed >= 1 && nothingWaits;
    }

    private void refreshOrClose() {
        if (banks.mayRefresh(now)) {
            refresh();
            return;
        }
        for (int bank = 0; bank < BANKS; bank++) {
            if (banks.mayPrecharge(bank, now)) {
                precharge(bank);
                return;
            }
        }
    }

    private void refresh() {
        banks.refresh(now);
        journal.enter(REFRESH, NONE, NONE, now, NONE);
        owed--;
        for (int i = 0; i < SCRUBBED_AT_ONCE; i++) {
            if (store.putRight(nextScrubbed)) {
                wordsPutRight++;
            }
            nextScrubbed = (nextScrubbed + 1) % ADDRESSES;
        }
    }

    private void precharge(int bank) {
        banks.precharge(bank, now);
        journal.enter(PRECHARGE, bank, NONE, now, NONE);
    }

    private void activate(int bank, int row) {
        banks.activate(bank, row, now);
        journal.enter(ACTIVATE, bank, row, now, NONE);
    }

    private void beginOrEndDraining() {
        int reads = readings.size();
        int writes = writings.size();
        if (drains) {
            drains = writes > 0 && (reads == 0 || 2 * writes > queue);
        } else {
            drains = writes > 0 && reads == 0 || writes >= queue;
        }
    }

    private void lookAtRequests() {
        lookedAt.clear();
        if (drains) {
            lookAtWritings();
        } else {
            lookAtReadings();
        }
        if (lookedAt.size() == 0) {
            if (drains) {
                lookAtReadings();
            } else {
                lookAtWritings();
            }
        }
        if (lookedAt.size() > 0 && now - requests.comingOf(lookedAt.at(0)) > cap) {
            lookedAt.keepFirst();
        }
    }

    private void lookAtReadings() {
        for (int i = 0; i < readings.size(); i++) {
            lookedAt.append(readings.at(i));
        }
    }

    private void lookAtWritings() {
        for (int i = 0; i < writings.size(); i++) {
            if (!isHeld(writings.at(i))) {
                lookedAt.append(writings.at(i));
            }
        }
    }

    /** Whether a reading of its address waits that came before it. */
    private boolean isHeld(int writing) {
        int address = requests.addressOf(writing);
        for (int i = 0; i < readings.size(); i++) {
            int reading = readings.at(i);
            if (reading < writing && requests.addressOf(reading) == address) {
                return true;
            }
        }
        return false;
    }

    private boolean transferOldest() {
        for (int i = 0; i < lookedAt.size(); i++) {
            int ticket = lookedAt.at(i);
            int address = requests.addressOf(ticket);
            boolean writes = requests.isWriting(ticket);
            if (banks.mayTransfer(bankOf(address), rowOf(address), writes, now)) {
                transfer(ticket, address, writes);
                return true;
            }
        }
        return false;
    }

    private void transfer(int ticket, int address, boolean writes) {
        banks.transfer(bankOf(address), writes, now);
        journal.enter(writes ? WRITE : READ, bankOf(address), columnOf(address), now, ticket);
        if (writes) {
            writings.remove(ticket);
            store.keep(address, requests.wordOf(ticket));
            requests.finish(ticket, requests.wordOf(ticket), DONE, now);
        } else {
            readings.remove(ticket);
            int fault = store.faultOf(address);
            long word = store.wordAt(address, fault);
            requests.finish(ticket, word, stageAfter(fault), banks.endOfBurst());
        }
    }

    private static int stageAfter(int fault) {
        if (fault == Store.NO_FAULT) {
            return DONE;
        }
        return fault == Store.BAD ? DONE_BAD : DONE_PUT_RIGHT;
    }

    private void openOrCloseForOldest() {
        for (int i = 0; i < lookedAt.size(); i++) {
            int address = requests.addressOf(lookedAt.at(i));
            int bank = bankOf(address);
            if (banks.mayActivate(bank, now)) {
                activate(bank, rowOf(address));
                return;
            }
            if (banks.mayPrecharge(bank, now) && !openRowIsWanted(bank)) {
                precharge(bank);
                return;
            }
        }
    }

    private boolean openRowIsWanted(int bank) {
        for (int i = 0; i < lookedAt.size(); i++) {
            int address = requests.addressOf(lookedAt.at(i));
            if (bankOf(address) == bank && rowOf(address) == banks.openRow(bank)) {
                return true;
            }
        }
        return false;
    }

    /** Which rows are open, and the cycles of the commands that bound the next ones. */
    private static final class Banks {
        private static final int CLOSED = -1;
        // So far back that no sum of timings reaches from it to cycle 0.
        private static final int NEVER = -1000000;
        private static final int WINDOW = 4;
        private static final int LEAST_TIMING = 1;
        private static final int MOST_TIMING = 30;
        private static final int LEAST_REFI = 60;
        private static final int MOST_REFI = 400;

        private final int[] timings = FIRST_TIMINGS.clone();
        private final int[] rows = new int[BANKS];
        private final int[] activated = new int[BANKS];
        private final int[] precharged = new int[BANKS];
        private final int[] readIn = new int[BANKS];
        private final int[] writtenIn = new int[BANKS];
        // The cycles of the latest four ACTIVATES of any bank, the latest first.
        private final int[] latestActivates = new int[WINDOW];
        private int latestTransfer = NEVER;
        private int latestWrite = NEVER;
        private int latestRefresh = NEVER;
        private int burstBegin = NEVER;
        private boolean burstWrites;

        Banks() {
            for (int bank = 0; bank < BANKS; bank++) {
                rows[bank] = CLOSED;
                activated[bank] = NEVER;
                precharged[bank] = NEVER;
                readIn[bank] = NEVER;
                writtenIn[bank] = NEVER;
            }
            for (int i = 0; i < WINDOW; i++) {
                latestActivates[i] = NEVER;
            }
        }

        boolean setTiming(int which, int v) {
            if (which < 0 || which >= timings.length) {
                return false;
            }
            int least = which == REFI ? LEAST_REFI : LEAST_TIMING;
            int most = which == REFI ? MOST_REFI : MOST_TIMING;
            if (v < least || v > most) {
                return false;
            }
            timings[which] = v;
            return true;
        }

        int refreshInterval() {
            return timings[REFI];
        }

        int openRow(int bank) {
            return rows[bank];
        }

        boolean mayActivate(int bank, int t) {
            return rows[bank] == CLOSED
                    && t - precharged[bank] >= timings[RP]
                    && t - activated[bank] >= timings[RC]
                    && t - latestActivates[0] >= timings[RRD]
                    && t - latestActivates[WINDOW - 1] >= timings[FAW]
                    && t - latestRefresh >= timings[RFC];
        }

        void activate(int bank, int row, int t) {
            rows[bank] = row;
            activated[bank] = t;
            System.arraycopy(latestActivates, 0, latestActivates, 1, WINDOW - 1);
            latestActivates[0] = t;
        }

        boolean mayPrecharge(int bank, int t) {
            return rows[bank] != CLOSED
                    && t - activated[bank] >= timings[RAS]
                    && t - readIn[bank] >= timings[RTP]
                    && t - writtenIn[bank] >= timings[CWL] + BURST + timings[WR];
        }

        void precharge(int bank, int t) {
            rows[bank] = CLOSED;
            precharged[bank] = t;
        }

        boolean mayTransfer(int bank, int row, boolean writes, int t) {
            return rows[bank] == row
                    && t - activated[bank] >= timings[RCD]
                    && t - latestTransfer >= timings[CCD]
                    && (writes || t - latestWrite >= timings[CWL] + BURST + timings[WTR])
                    && beginOfBurst(writes, t) >= busFreeFrom(writes);
        }

        private int beginOfBurst(boolean writes, int t) {
            return t + (writes ? timings[CWL] : timings[CL]);
        }

        private int busFreeFrom(boolean writes) {
            return endOfBurst() + (writes == burstWrites ? 0 : 1);
        }

        /** The cycle behind the last one of the burst that began last. */
        int endOfBurst() {
            return burstBegin + BURST;
        }

        void transfer(int bank, boolean writes, int t) {
            latestTransfer = t;
            burstBegin = beginOfBurst(writes, t);
            burstWrites = writes;
            if (writes) {
                writtenIn[bank] = t;
                latestWrite = t;
            } else {
                readIn[bank] = t;
            }
        }

        boolean mayRefresh(int t) {
            for (int bank = 0; bank < BANKS; bank++) {
                if (rows[bank] != CLOSED || t - precharged[bank] < timings[RP]) {
                    return false;
                }
            }
            return t - latestRefresh >= timings[RFC];
        }

        void refresh(int t) {
            latestRefresh = t;
        }
    }

    /** The words as they are stored, each with its checks. */
    private static final class Store {
        static final int NO_FAULT = -1;
        static final int BAD = -2;
        private static final int FIRST_WORD_PLACE = 3;
        private static final int LOW_PLACES = 64;

        // All bits 0 is the word 0 with its checks, so new rows need no filling.
        private final long[] low = new long[ADDRESSES];
        private final int[] high = new int[ADDRESSES];

        int bitAt(int address, int place) {
            if (place < LOW_PLACES) {
                return (int) (low[address] >>> place & 1L);
            }
            return high[address] >>> (place - LOW_PLACES) & 1;
        }

        void turn(int address, int place) {
            if (place < LOW_PLACES) {
                low[address] ^= 1L << place;
            } else {
                high[address] ^= 1 << (place - LOW_PLACES);
            }
        }

        void keep(int address, long word) {
            low[address] = 0L;
            high[address] = 0;
            int syndrome = 0;
            long rest = word;
            for (int place = FIRST_WORD_PLACE; place < PLACES; place++) {
                if (!isCheck(place)) {
                    if ((rest & 1L) != 0L) {
                        turn(address, place);
                        syndrome ^= place;
                    }
                    rest >>>= 1;
                }
            }
            // The number of a check's place has one bit alone: each check mends one of the syndrome.
            for (int check = 1; check < PLACES; check *= 2) {
                if ((syndrome & check) != 0) {
                    turn(address, check);
                }
            }
            if (onesAreOdd(address)) {
                turn(address, 0);
            }
        }

        private static boolean isCheck(int place) {
            return (place & (place - 1)) == 0;
        }

        private int syndromeOf(int address) {
            int syndrome = 0;
            for (int place = 1; place < PLACES; place++) {
                if (bitAt(address, place) == 1) {
                    syndrome ^= place;
                }
            }
            return syndrome;
        }

        private boolean onesAreOdd(int address) {
            int ones = Long.bitCount(low[address]) + Integer.bitCount(high[address]);
            return ones % 2 == 1;
        }

        /** The place whose bit flipped, or NO_FAULT, or BAD. */
        int faultOf(int address) {
            int syndrome = syndromeOf(address);
            if (onesAreOdd(address)) {
                return syndrome < PLACES ? syndrome : BAD;
            }
            return syndrome == 0 ? NO_FAULT : BAD;
        }

        /** The word's bits, the one at the place of the fault (if there is one) the other way. */
        long wordAt(int address, int fault) {
            long word = 0L;
            for (int place = PLACES - 1; place >= FIRST_WORD_PLACE; place--) {
                if (!isCheck(place)) {
                    int seen = bitAt(address, place);
                    word = word << 1 | (place == fault ? 1 - seen : seen);
                }
            }
            return word;
        }

        /** Whether one bit had flipped, which is mended then. */
        boolean putRight(int address) {
            int fault = faultOf(address);
            if (fault < 0) {
                return false;
            }
            turn(address, fault);
            return true;
        }
    }

    /** All requests that ever came, by ticket. */
    private static final class Requests {
        private final int[] addresses = new int[MOST_TICKETS];
        private final boolean[] areWritings = new boolean[MOST_TICKETS];
        private final int[] comings = new int[MOST_TICKETS];
        private final long[] words = new long[MOST_TICKETS];
        // WAITS, or the stage that is reached behind the end.
        private final int[] lastStages = new int[MOST_TICKETS];
        private final int[] ends = new int[MOST_TICKETS];
        private int count;

        int count() {
            return count;
        }

        boolean areOut() {
            return count >= MOST_TICKETS;
        }

        boolean has(int ticket) {
            return ticket >= 0 && ticket < count;
        }

        int take(int address, boolean writing, int coming) {
            int ticket = count;
            addresses[ticket] = address;
            areWritings[ticket] = writing;
            comings[ticket] = coming;
            count++;
            return ticket;
        }

        void setWord(int ticket, long word) {
            words[ticket] = word;
        }

        /** The request waits no more, and is done in the cycle end (NONE: before any cycle). */
        void finish(int ticket, long word, int lastStage, int end) {
            words[ticket] = word;
            lastStages[ticket] = lastStage;
            ends[ticket] = end;
        }

        int addressOf(int ticket) {
            return addresses[ticket];
        }

        boolean isWriting(int ticket) {
            return areWritings[ticket];
        }

        int comingOf(int ticket) {
            return comings[ticket];
        }

        long wordOf(int ticket) {
            return words[ticket];
        }

        int stageOf(int ticket, int now) {
            if (lastStages[ticket] == WAITS) {
                return WAITS;
            }
            return now > ends[ticket] ? lastStages[ticket] : READ_GIVEN;
        }
    }

    /** Tickets in the order in which they came, at most as many as the largest queue. */
    private static final class Line {
        private final int[] tickets = new int[LARGEST_QUEUE];
        private int size;

        int size() {
            return size;
        }

        int at(int i) {
            return tickets[i];
        }

        void append(int ticket) {
            if (size < tickets.length) {
                tickets[size] = ticket;
                size++;
            }
        }

        void remove(int ticket) {
            int kept = 0;
            for (int i = 0; i < size; i++) {
                if (tickets[i] != ticket) {
                    tickets[kept] = tickets[i];
                    kept++;
                }
            }
            size = kept;
        }

        void keepFirst() {
            size = Math.min(size, 1);
        }

        void clear() {
            size = 0;
        }
    }

    /** How many commands were given, and the latest ones of them. */
    private static final class Journal {
        private static final int KEPT = 32;
        private static final int PARTS = 5;

        private final int[][] entries = new int[KEPT][PARTS];
        private int next;
        private int kept;
        private int count;

        int count() {
            return count;
        }

        void enter(int which, int bank, int detail, int cycle, int ticket) {
            int[] entry = entries[next];
            entry[0] = which;
            entry[1] = bank;
            entry[2] = detail;
            entry[3] = cycle;
            entry[4] = ticket;
            next = (next + 1) % KEPT;
            kept = Math.min(kept + 1, KEPT);
            count++;
        }

        int entry(int k, int what) {
            if (k < 0 || k >= kept || what < 0 || what >= PARTS) {
                return -1;
            }
            return entries[(next + KEPT - 1 - k) % KEPT][what];
        }
    }
}
