/** Runs one test for each sentence of the document, and tells the sentences that do not hold. */
final class Sentences {
    private static final int MOST_TOLD = 3;

    private static String words = "";
    private static int tested = 0;
    private static int broken = 0;
    private static int wrong = 0;

    private Sentences() { }

    /** The test of a sentence, or of the part of one that names a boundary case. */
    static void test(String sentence, Runnable run) {
        words = sentence;
        wrong = 0;
        tested++;
        try {
            run.run();
        } catch (RuntimeException e) {
            fail("threw " + e);
        }
        if (wrong > 0) {
            broken++;
        }
    }

    static void fail(String told) {
        wrong++;
        if (wrong <= MOST_TOLD) {
            System.out.println("\"" + words + "\": " + told);
        }
    }

    static void end() {
        System.out.println(tested + " sentences tested, " + broken + " broken");
        if (broken > 0) {
            System.exit(1);
        }
    }
}
