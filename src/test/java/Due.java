import java.util.function.ToLongFunction;

/** What the tests share: named tests, yards to be told, answers that are due, and how a file of tests ends. */
final class Due {
    static final int NONE = -1000000, BAD = -1000001, STATE = -1000002, FULL = -1000003;
    static final int NULL = -1000011, PLACE = -1000012, KIND = -1000013, SIZE = -1000014, STORE = -1000015;

    /** Five bikes, two holds of each sort, a lifter of four of the kinds. */
    static final String FIVE =
        "y3,2,4;k9,2;k12,3;k20,5;k8,1;k15,3;o0,1;o1,2;c1,3;c0,4;t14;f20;p10;n9;";

    /** So Mutants has it: the first test that fails ends it all, by an Error that bears its name. */
    private static final boolean STOPS = Boolean.getBoolean("due.stops");

    private static int right = 0;
    private static int wrong = 0;
    private static int passed = 0;
    private static int failed = 0;

    private Due() {
    }

    /** A test of its own: it passes if it looked at an answer, and every one was as due. */
    static void test(String name, Runnable body) {
        int rightBefore = right;
        int wrongBefore = wrong;
        try {
            body.run();
        } catch (Throwable thrown) {
            wrong++;
            System.out.println(name + ": threw " + thrown);
        }
        if (wrong == wrongBefore && right > rightBefore) {
            passed++;
        } else {
            failed++;
            System.out.println("FAILS " + name);
            if (STOPS) {
                throw new Error(name);
            }
        }
    }

    /** A test of one call on a new object that was told a text ("": none). */
    static void one(String name, String text, ToLongFunction<NineDown> call, long want) {
        test(name, () -> due(name, call.applyAsLong(text.isEmpty() ? new NineDown() : told(text)), want));
    }

    static void due(String call, long got, long want) {
        if (got == want) {
            right++;
        } else {
            wrong++;
            System.out.println(call + " answered " + got + ", due is " + want);
        }
    }

    /** Feeds a text and has it read. */
    static int tell(NineDown x, String text) {
        feed(x, text);
        return x.yard();
    }

    static void feed(NineDown x, String text) {
        for (int i = 0; i < text.length(); i++) {
            due("feed of byte " + i + " of " + text, x.feed(text.charAt(i)), i + 1);
        }
    }

    static NineDown told(String text) {
        NineDown x = new NineDown();
        if (tell(x, text) < 0) {
            due("yard() of " + text, -1, 0);
        }
        return x;
    }

    static void fill(NineDown x, int row, int lane, int... items) {
        due("row", x.row(row, lane, items.length), items.length);
        for (int i = 0; i < items.length; i++) {
            due("set", x.set(row, i, items[i]), items[i]);
        }
    }

    static String times(String text, int n) {
        return text.repeat(n);
    }

    /** The last line, which .ci/run adds up: how many tests passed and failed. */
    static void end() {
        System.out.println(right + " answers as due, " + wrong + " not");
        System.out.println(passed + " passed, " + failed + " failed");
        if (failed != 0 || wrong != 0 || passed == 0) {
            System.exit(1);
        }
    }
}
