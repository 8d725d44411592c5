import java.util.ArrayList;
import java.util.List;

/**
 * A keeper under test. Its calls carry the answer that is due, as their last argument; a wrong
 * answer is told with the calls before it. Beyond 512 calls a test is itself wrong, for then all
 * answers are free.
 *
 * Commands are told as texts, the earliest first: A0.5@7 is ACTIVATE of row 5 of bank 0 in cycle
 * 7, P0@7 a PRECHARGE, R0.5#2@7 a READ of column 5 for ticket 2, W0.5#2@7 a WRITE, F@7 a REFRESH.
 */
final class Kept {
    static final int RCD = 0, RP = 1, RAS = 2, RC = 3, RRD = 4, FAW = 5, CCD = 6;
    static final int WR = 7, WTR = 8, RTP = 9, CL = 10, CWL = 11, RFC = 12, REFI = 13;
    private static final int MOST_CALLS = 512;
    private static final int TOLD_CALLS = 12;

    private final BankKeeper keeper;
    private final List<String> calls = new ArrayList<>();

    Kept(int queue, int cap) {
        keeper = new BankKeeper(queue, cap);
        calls.add("new BankKeeper(" + queue + ", " + cap + ")");
    }

    /** A keeper with the longest queues and the highest cap, and these timings set. */
    static Kept with(int... timings) {
        return new Kept(8, 300).set(timings);
    }

    Kept set(int... timings) {
        for (int i = 0; i < timings.length; i += 2) {
            timing(timings[i], timings[i + 1], true);
        }
        return this;
    }

    // ---- the face, each call with the answer that is due

    void timing(int which, int v, boolean due) {
        count("timing(" + which + ", " + v + ")");
        check(keeper.timing(which, v), due);
    }

    void read(int address, int due) {
        count("read(" + address + ")");
        check(keeper.read(address), due);
    }

    void write(int address, long word, int due) {
        count("write(" + address + ", " + word + ")");
        check(keeper.write(address, word), due);
    }

    void cycles(int n, int due) {
        count("cycles(" + n + ")");
        check(keeper.cycles(n), due);
    }

    void flip(int address, int place, boolean due) {
        count("flip(" + address + ", " + place + ")");
        check(keeper.flip(address, place), due);
    }

    void status(int ticket, int due) {
        count("status(" + ticket + ")");
        check(keeper.status(ticket), due);
    }

    void value(int ticket, long due) {
        count("value(" + ticket + ")");
        check(keeper.value(ticket), due);
    }

    void state(int what, int due) {
        check(asked(what), due);
    }

    void command(int k, int what, int due) {
        check(told(k, what), due);
    }

    void bit(int address, int place, int due) {
        check(stored(address, place), due);
    }

    // ---- what leads up to a check

    /** Readings that must all be taken. */
    Kept reads(int... addresses) {
        for (int address : addresses) {
            count("read(" + address + ")");
            taken(keeper.read(address));
        }
        return this;
    }

    /** Writings that must all be taken, of the word 1000 + address. */
    Kept writes(int... addresses) {
        for (int address : addresses) {
            count("write(" + address + ", " + (1000 + address) + ")");
            taken(keeper.write(address, 1000 + address));
        }
        return this;
    }

    Kept pass(int cycles) {
        for (int rest = cycles; rest > 0; rest -= 300) {
            count("cycles(" + Math.min(rest, 300) + ")");
            taken(keeper.cycles(Math.min(rest, 300)));
        }
        return this;
    }

    Kept flips(int address, int... places) {
        for (int place : places) {
            flip(address, place, true);
        }
        return this;
    }

    // ---- what is seen, taken together

    /** All commands, of which there are at most 32. */
    void given(String due) {
        tell(asked(5), due);
    }

    /** The latest commands, as many as are due. */
    void latest(String due) {
        tell(due.split(" ").length, due);
    }

    /** The word's bits as they are stored. */
    void word(int address, long due) {
        long word = 0L;
        int bits = 0;
        for (int place = 3; place < 72; place++) {
            if (Integer.bitCount(place) > 1) {
                word |= (long) stored(address, place) << bits++;
            }
        }
        check(word, due);
    }

    /** That all bits of a word are 0, but for those at these places. */
    void ones(int address, int... places) {
        boolean[] due = new boolean[72];
        for (int place : places) {
            due[place] = true;
        }
        for (int place = 0; place < 72; place++) {
            bit(address, place, due[place] ? 1 : 0);
        }
    }

    /** That those bits of a word are even in number whose places have the bit of a check; of 0 all. */
    void even(int address, int check) {
        int ones = 0;
        for (int place = 0; place < 72; place++) {
            ones += (place & check) == check ? stored(address, place) : 0;
        }
        if (ones % 2 != 0) {
            fail("shows " + ones + " ones at the places of check " + check);
        }
    }

    /** That a call, which must be refused, leaves everything that can be asked as it was. */
    void unchangedBy(Runnable refused) {
        String before = seen();
        refused.run();
        String after = seen();
        if (!before.equals(after)) {
            fail("changed " + before + " to " + after);
        }
    }

    private String seen() {
        StringBuilder text = new StringBuilder();
        for (int what = 0; what <= 13; what++) {
            text.append(asked(what)).append(' ');
        }
        return text.append(told(0, 0)).append(' ').append(told(0, 3)).toString();
    }

    private void tell(int many, String due) {
        StringBuilder text = new StringBuilder();
        for (int k = many - 1; k >= 0; k--) {
            text.append(text.length() == 0 ? "" : " ").append(command(k));
        }
        if (!due.contentEquals(text)) {
            fail("given were " + text + ", due is " + due);
        }
    }

    private String command(int k) {
        int which = told(k, 0);
        String cycle = "@" + told(k, 3);
        switch (which) {
            case 0: return "A" + told(k, 1) + "." + told(k, 2) + cycle;
            case 1: return "P" + told(k, 1) + cycle;
            case 2: return "R" + told(k, 1) + "." + told(k, 2) + "#" + told(k, 4) + cycle;
            case 3: return "W" + told(k, 1) + "." + told(k, 2) + "#" + told(k, 4) + cycle;
            case 4: return "F" + cycle;
            default: return "?" + which;
        }
    }

    private int asked(int what) {
        count("state(" + what + ")");
        return keeper.state(what);
    }

    private int told(int k, int what) {
        count("command(" + k + ", " + what + ")");
        return keeper.command(k, what);
    }

    private int stored(int address, int place) {
        count("bit(" + address + ", " + place + ")");
        return keeper.bit(address, place);
    }

    private void count(String call) {
        calls.add(call);
        if (calls.size() - 1 > MOST_CALLS) {
            throw new IllegalStateException("the test makes more than " + MOST_CALLS + " calls");
        }
    }

    private void taken(int answer) {
        if (answer < 0) {
            fail("answered " + answer);
        }
    }

    private void check(boolean got, boolean due) {
        check(got ? 1L : 0L, due ? 1L : 0L);
    }

    private void check(long got, long due) {
        if (got != due) {
            fail("answered " + got + ", due is " + due);
        }
    }

    private void fail(String told) {
        int from = Math.max(1, calls.size() - TOLD_CALLS);
        String gap = from > 1 ? "; .. " + (from - 1) + " calls more .." : "";
        Sentences.fail(calls.get(0) + gap + "; " + String.join("; ", calls.subList(from, calls.size())) + " " + told);
    }
}
