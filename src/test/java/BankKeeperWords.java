/**
 * How words are stored with their checks, read, and scrubbed: every place, every pair of places,
 * and the syndromes on both sides of the last place.
 */
public final class BankKeeperWords {
    private static final int REFI = Kept.REFI;
    private static final int PLACES = 72;
    private static final int RIGHT = 2, PUT_RIGHT = 3, BAD = 4;
    private static final long WORD = 0x0123456789ABCDEFL;

    public static void main(String[] args) {
        atFirst();
        stored();
        taken();
        inItsCycle();
        scrubbed();
        Sentences.end();
    }

    private static void atFirst() {
        Sentences.test("WORDS .. at ADDRESSES 0 .. 255, all 0 at first.", () -> {
            for (int address = 0; address < 256; address++) {
                Kept x = Kept.with();
                x.ones(address);
                x.reads(address).pass(12);
                x.status(0, RIGHT);
                x.value(0, 0L);
            }
        });
        Sentences.test("WORDS are longs", () -> {
            long[] words = {0L, 1L, -1L, Long.MAX_VALUE, Long.MIN_VALUE, 1L << 31, 1L << 32, 0xFFFFFFFFL, ~0xFFFFFFFFL};
            for (long word : words) {
                for (int address = 0; address < 256; address += 51) {
                    Kept x = holding(address, word);
                    x.word(address, word);
                    x.reads(address).pass(20);
                    x.status(1, RIGHT);
                    x.value(1, word);
                }
            }
        });
        Sentences.test("at ADDRESSES (a writing of one leaves the others alone)", () -> {
            Kept x = holding(31, -1L);
            x.ones(30);
            x.ones(32);
            x.ones(63);
            x.ones(0);
        });
    }

    /** A keeper that has stored a word, and has a row open. */
    private static Kept holding(int address, long word) {
        Kept x = Kept.with();
        x.write(address, word, 0);
        return x.pass(20);
    }

    private static boolean isCheck(int place) {
        return Integer.bitCount(place) == 1;
    }

    /** The bit of the word that a place holds, alone; 0 for places that hold none. */
    private static long held(int place) {
        long bit = 1L;
        for (int lower = 3; lower < place; lower++) {
            bit = isCheck(lower) ? bit : bit << 1;
        }
        return place == 0 || isCheck(place) ? 0L : bit;
    }

    private static void stored() {
        Sentences.test("A word is STORED as 72 bits at PLACES 0 .. 71", () -> {
            Kept x = holding(9, -1L);
            x.bit(9, -1, -1);
            x.bit(9, 3, 1);
            x.bit(9, 71, 1);
            x.bit(9, 72, -1);
        });
        Sentences.test("the other ones from 3 on the word's bits, the lowest first", () -> {
            // 3, 5, 6, 7, 9: bits 0 to 4; 63 is the last place before check 64, 71 the last of all.
            long[][] bits = {{0, 3}, {1, 5}, {2, 6}, {3, 7}, {4, 9}, {10, 15}, {11, 17}, {25, 31}, {26, 33},
                {56, 63}, {57, 65}, {63, 71}};
            for (long[] pair : bits) {
                Kept x = holding(9, 1L << pair[0]);
                for (int place = 3; place < PLACES; place++) {
                    if (!isCheck(place)) {
                        x.bit(9, place, place == pair[1] ? 1 : 0);
                    }
                }
            }
        });
        Sentences.test("places 1, 2, 4, .. 64 are checks", () -> {
            // Checks by hand for words of one bit: 3 = 1 + 2, 71 = 64 + 4 + 2 + 1, 63 = 32 + .. + 1.
            holding(9, 1L).ones(9, 0, 1, 2, 3);
            holding(9, 2L).ones(9, 0, 1, 4, 5);
            holding(9, 8L).ones(9, 1, 2, 4, 7);
            holding(9, 1L << 57).ones(9, 0, 1, 64, 65);
            holding(9, 1L << 56).ones(9, 0, 1, 2, 4, 8, 16, 32, 63);
            holding(9, 1L << 63).ones(9, 0, 1, 2, 4, 64, 71);
        });
        Sentences.test("A check at place c makes the number of bits .. whose number has the bit c, even", () -> {
            long[] words = {0L, -1L, WORD, ~WORD, 1L << 63 | 1L};
            for (long word : words) {
                for (int check = 1; check <= 64; check *= 2) {
                    holding(9, word).even(9, check);
                }
            }
        });
        Sentences.test("the bit at place 0 makes the number of all bits that are 1 even", () -> {
            for (int bit = 0; bit < 64; bit++) {
                holding(9, 1L << bit).even(9, 0);
                holding(9, ~(1L << bit)).even(9, 0);
            }
        });
    }

    private static void taken() {
        Sentences.test("If all bits that are 1 are even in number: the word is RIGHT with syndrome 0", () -> {
            tookAs(RIGHT, WORD);
            // 3 ^ 5 ^ 6 is 0: four bits flipped are not seen.
            tookAs(RIGHT, WORD ^ 7L, 0, 3, 5, 6);
            tookAs(RIGHT, WORD ^ held(71) ^ held(7), 64, 7, 71, 0);
        });
        Sentences.test("otherwise BAD. A BAD word is taken as it stands.", () -> {
            for (int first = 0; first < PLACES; first++) {
                for (int second = first + 1; second < PLACES; second++) {
                    tookAs(BAD, WORD ^ held(first) ^ held(second), first, second);
                }
            }
        });
        Sentences.test("If they are odd: the bit at the syndrome's place flipped: PUT RIGHT", () -> {
            for (int place = 0; place < PLACES; place++) {
                tookAs(PUT_RIGHT, WORD, place);
            }
        });
        // Of three bits the syndrome is another place, up to 71, which is taken the other way.
        Sentences.test("the bit at the syndrome's place .. is taken the other way", () -> {
            for (int place = 1; place <= 7; place++) {
                tookAs(PUT_RIGHT, WORD ^ held(place) ^ held(64 + place), 0, 64, place);
            }
        });
        Sentences.test("BAD if there is no such place. A BAD word is taken as it stands.", () -> {
            for (int place = 8; place <= 63; place++) {
                tookAs(BAD, WORD ^ held(place), 0, 64, place);
            }
        });
        Sentences.test("To READ what is stored (which leaves it as it is)", () -> {
            for (int place = 0; place < PLACES; place++) {
                Kept x = Kept.with().flips(9, place).reads(9).pass(12);
                x.status(0, PUT_RIGHT);
                x.ones(9, place);
                x.state(6, 0);
            }
        });
    }

    private static void tookAs(int status, long word, int... flipped) {
        Kept x = holding(200, WORD).flips(200, flipped).reads(200).pass(20);
        x.status(1, status);
        x.value(1, word);
    }

    private static void inItsCycle() {
        // The READ is given in cycle 3, and its burst ends in 11.
        Sentences.test("A READ takes the word as it is stored in its cycle", () -> {
            Kept x = Kept.with().reads(9).pass(3).flips(9, 3, 5).pass(1);
            x.value(0, 3L);
            x.flips(9, 3, 5, 6, 7).value(0, 3L);
            x.pass(10).value(0, 3L);
            x.status(0, BAD);
            x = Kept.with().reads(9).pass(4).flips(9, 3).pass(10);
            x.value(0, 0L);
            x.status(0, RIGHT);
        });
        Sentences.test("a WRITE stores its word in its cycle, and its request is DONE", () -> {
            Kept x = Kept.with();
            x.write(9, 1L, 0);
            x.pass(3).status(0, 0);
            x.ones(9);
            x.pass(1).status(0, 2);
            x.ones(9, 0, 1, 2, 3);
        });
        Sentences.test("a WRITE stores its word (with new checks, whatever had flipped)", () -> {
            Kept x = Kept.with().flips(9, 0, 3, 64, 70);
            x.write(9, 1L, 0);
            x.pass(4).ones(9, 0, 1, 2, 3);
            x.reads(9).pass(30);
            x.status(1, RIGHT);
            x.value(1, 1L);
        });
        Sentences.test("a WRITE stores its word (the later of two stays)", () -> {
            Kept x = Kept.with();
            x.write(9, 1L, 0);
            x.write(9, 0L, 1);
            x.pass(30).ones(9);
        });
    }

    private static void scrubbed() {
        Sentences.test("SCRUBS two words, the next ones by address (0 and 1 first", () -> {
            Kept x = Kept.with(REFI, 60).flips(0, 9).flips(1, 9).flips(2, 9).flips(3, 9).flips(4, 9).pass(60);
            x.state(7, 0);
            x.state(6, 0);
            for (int next = 2; next <= 4; next += 2) {
                x.pass(1).state(7, next);
                x.state(6, next);
                x.bit(next - 2, 9, 0);
                x.bit(next - 1, 9, 0);
                x.bit(next, 9, 1);
                x.pass(59).state(7, next);
            }
        });
        Sentences.test("behind 255 comes 0)", () -> {
            Kept x = Kept.with(REFI, 60).pass(127 * 60 + 1);
            x.state(7, 254);
            x.flips(253, 9).flips(254, 9).flips(255, 16).flips(0, 0).flips(1, 71).pass(60);
            x.state(7, 0);
            x.state(6, 2);
            x.bit(253, 9, 1);
            x.bit(254, 9, 0);
            x.bit(255, 16, 0);
            x.bit(0, 0, 1);
            x.pass(60).state(7, 2);
            x.state(6, 4);
            x.bit(0, 0, 0);
            x.bit(1, 71, 0);
        });
        Sentences.test("one of which one bit flipped is put right", () -> {
            for (int place = 0; place < PLACES; place++) {
                Kept x = Kept.with(REFI, 60).flips(0, place).flips(1, PLACES - 1 - place).pass(61);
                x.ones(0);
                x.ones(1);
                x.state(6, 2);
            }
        });
        Sentences.test("one of which one bit flipped (of a word that is not 0)", () -> {
            for (int place = 0; place < PLACES; place++) {
                Kept x = holding(0, WORD).flips(0, place).pass(130);
                x.word(0, WORD);
                x.even(0, 0);
                x.state(6, 1);
            }
        });
        Sentences.test("one of which one bit flipped (a word with none is left, and not counted)", () -> {
            Kept x = holding(1, WORD).pass(130);
            x.state(7, 2);
            x.state(6, 0);
            x.word(1, WORD);
        });
        Sentences.test("one of which one bit flipped (a BAD word is left, and not counted)", () -> {
            leftAlone(3, 5);
            leftAlone(0, 71);
            leftAlone(0, 8, 64);
            leftAlone(0, 63, 64);
            leftAlone(0, 3, 5, 6);
        });
        // Not to be told from one bit that flipped: the syndrome of 0, 7 and 64 is place 71.
        Sentences.test("the bit at the syndrome's place flipped (of three, which a scrub puts right wrongly)", () -> {
            Kept x = Kept.with(REFI, 60).flips(0, 0, 7, 64).pass(61);
            x.ones(0, 0, 7, 64, 71);
            x.state(6, 1);
        });
        Sentences.test("6 how many words REFRESHES put right (not READS)", () -> {
            Kept x = Kept.with(REFI, 60).flips(0, 5).reads(0).pass(60);
            x.status(0, PUT_RIGHT);
            x.state(6, 0);
            x.pass(10).state(6, 1);
            x.ones(0);
        });
    }

    private static void leftAlone(int... flipped) {
        Kept x = Kept.with(REFI, 60).flips(0, flipped).flips(1, flipped).pass(61);
        x.state(7, 2);
        x.state(6, 0);
        x.ones(0, flipped);
        x.ones(1, flipped);
    }
}
