/** What the tests share: answers compared with those that are due, and rows put on tapes. */
final class Due {
    interface Call {
        long answer();
    }

    private static int asked = 0;
    private static int wrong = 0;

    private Due() {
    }

    static void due(String call, long got, long want) {
        asked++;
        if (got != want) {
            wrong++;
            System.out.println(call + " answered " + got + ", due is " + want);
        }
    }

    static void same(String what, Object got, Object want) {
        asked++;
        if (!want.equals(got)) {
            wrong++;
            System.out.println(what + " is " + got + ", due is " + want);
        }
    }

    static void argument(String call, Call made) {
        same(call, answerOf(made), "IllegalArgumentException");
    }

    static void state(String call, Call made) {
        same(call, answerOf(made), "IllegalStateException");
    }

    /** The answer of a call in words, or the name of the exception that it throws. */
    static String answerOf(Call made) {
        try {
            return "" + made.answer();
        } catch (RuntimeException e) {
            return e.getClass().getSimpleName();
        }
    }

    /** A row of a sort on a tape. */
    static void row(CamStitch x, int d, int sort, long... elements) {
        due("tape", x.tape(d, sort, elements.length), elements.length);
        for (int i = 0; i < elements.length; i++) {
            if (elements[i] != 0) {
                due("put", x.put(d, i, elements[i]), 1);
            }
        }
    }

    /** What read() answers to a row of bytes, which stays on tape 5. */
    static int read(CamStitch x, long... orders) {
        row(x, 5, 1, orders);
        return x.read(5);
    }

    /** The disc at work becomes one of these stitches: swing, feed, swing, feed ... */
    static void work(CamStitch x, int... swingsAndFeeds) {
        int n = swingsAndFeeds.length / 2;
        // n POINTS at 0, 0 make n STITCHES, which are then filed; so n is 24 at most.
        long[] orders = new long[3 * n + 3];
        for (int i = 0; i < n; i++) {
            orders[3 * i] = 1;
        }
        orders[3 * n] = 6;
        due("read", read(x, orders), n);
        due("make", x.make(12, 12), n);
        for (int j = 0; j < n; j++) {
            due("file", x.file(j, swingsAndFeeds[2 * j], swingsAndFeeds[2 * j + 1]), 1);
        }
    }

    static void stitches(CamStitch x, String when, int... swingsAndFeeds) {
        due(when + ": stitches", x.disc(0), swingsAndFeeds.length / 2);
        for (int j = 0; j < swingsAndFeeds.length / 2; j++) {
            due(when + ": swing " + j, x.stitch(j, 0), swingsAndFeeds[2 * j]);
            due(when + ": feed " + j, x.stitch(j, 1), swingsAndFeeds[2 * j + 1]);
        }
    }

    static void end(String test) {
        System.out.println(test + ": " + (asked - wrong) + " answers as due, " + wrong + " not");
        if (wrong != 0) {
            System.exit(1);
        }
    }
}
