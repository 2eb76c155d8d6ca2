import java.util.Arrays;

/** I, PATTERN, and promises 3 to 5: each sentence that names a boundary, on both of its sides. */
public final class PatternEdgeTest {
    public static void main(String[] args) {
        pointsFrom1To24();
        pointsByTimes();
        xWithin12();
        xByOriginAndMirror();
        yWithin100();
        originWithin100();
        originMirrored();
        advanceWithin100();
        theLastAdvanceCounts();
        mirroredOrNot();
        timesFrom1To9();
        threeDeepAtMost();
        endsWithoutTimes();
        theEndWithinTimes();
        theEndWithoutPointsOrAdvance();
        noSuchOrder();
        numbersThatLack();
        rowsWithoutAnEnd();
        faultsAsTheyCome();
        aFaultLeavesThePattern();
        eachReadingBeginsAnew();
        numbersOfPoints();
        Due.end("PatternEdgeTest");
    }

    /** What a new room's read() answers; a row that is read gives a PATTERN of as many POINTS as are answered. */
    private static CamStitch reads(long want, long... orders) {
        CamStitch x = new CamStitch();
        Due.due("read " + Arrays.toString(orders), Due.read(x, orders), want);
        Due.due("points of " + Arrays.toString(orders), x.count(0), Math.max(want, 0));
        return x;
    }

    private static void firstPoint(long x, long y, long... orders) {
        CamStitch room = reads(1, orders);
        Due.due("x of " + Arrays.toString(orders), room.point(0, 0), x);
        Due.due("y of " + Arrays.toString(orders), room.point(0, 1), y);
    }

    /** Orders behind one another. */
    private static long[] joined(long[] first, long... then) {
        long[] both = Arrays.copyOf(first, first.length + then.length);
        System.arraycopy(then, 0, both, first.length, then.length);
        return both;
    }

    private static long[] points(int n) {
        long[] orders = new long[3 * n];
        for (int k = 0; k < n; k++) {
            orders[3 * k] = 1;
            orders[3 * k + 1] = k % 13;
            orders[3 * k + 2] = k;
        }
        return orders;
    }

    /** 1 to 24 POINTS; a 25th one is a fault. */
    private static void pointsFrom1To24() {
        reads(-102, 6, 0, 0);
        for (int n = 1; n <= 24; n++) {
            CamStitch x = reads(n, joined(points(n), 6, 9, 0));
            int last = n - 1;
            Due.due("the last of " + n, x.point(last, 0), last % 13);
            Due.due("the last of " + n, x.point(last, 1), last);
            Due.state("one more than " + n, () -> x.point(last + 1, 0));
        }
        reads(-100 - 72, joined(points(25), 6, 9, 0));
        reads(-100 - 72, joined(points(26), 6, 9, 0));
        // The ADVANCE ahead moves the 25th's place by 2.
        reads(-100 - 74, joined(joined(new long[] {6, 9}, points(25)), 0));
    }

    private static void pointsByTimes() {
        reads(24, 4, 3, 4, 8, 1, 1, 1, 5, 5, 6, 0, 0);
        reads(24, 4, 2, 4, 3, 4, 4, 1, 1, 1, 5, 5, 5, 6, 0, 0);
        reads(-104, 4, 3, 4, 9, 1, 1, 1, 5, 5, 6, 0, 0);
        // 24 in the 4, and the 25th behind it.
        reads(-112, 4, 3, 4, 8, 1, 1, 1, 5, 5, 6, 0, 3, 1, 0, 0, 0);
    }

    /** POINTS: x -12 .. 12. */
    private static void xWithin12() {
        for (int x = -128; x <= 127; x++) {
            if (x >= -12 && x <= 12) {
                firstPoint(x, 0, 1, x, 0, 6, 0, 0);
            } else {
                reads(-100, 1, x, 0, 6, 0, 0);
            }
        }
    }

    /** "the ORIGIN's x and x (or less x while MIRRORED)": the POINT's x is what is looked at. */
    private static void xByOriginAndMirror() {
        firstPoint(12, 0, 2, 12, 0, 1, 0, 0, 6, 0, 0);
        reads(-103, 2, 12, 0, 1, 1, 0, 6, 0, 0);
        reads(-103, 2, 13, 0, 1, 0, 0, 6, 0, 0);
        firstPoint(12, 0, 2, 13, 0, 1, -1, 0, 6, 0, 0);
        firstPoint(12, 0, 2, 100, 0, 1, -88, 0, 6, 0, 0);
        reads(-103, 2, 100, 0, 1, -87, 0, 6, 0, 0);
        firstPoint(-12, 0, 2, 100, 0, 1, -112, 0, 6, 0, 0);
        reads(-103, 2, 100, 0, 1, -113, 0, 6, 0, 0);
        firstPoint(-12, 0, 2, -100, 0, 1, 88, 0, 6, 0, 0);
        reads(-103, 2, -100, 0, 1, 87, 0, 6, 0, 0);
        firstPoint(12, 0, 2, -100, 0, 1, 112, 0, 6, 0, 0);
        reads(-103, 2, -100, 0, 1, 113, 0, 6, 0, 0);
        firstPoint(12, 0, 3, 1, -12, 0, 6, 0, 0);
        firstPoint(-12, 0, 3, 1, 12, 0, 6, 0, 0);
        reads(-101, 3, 1, -13, 0, 6, 0, 0);
        reads(-101, 3, 1, 13, 0, 6, 0, 0);
        reads(-101, 3, 1, -128, 0, 6, 0, 0);
        // 90 less 78 is 12, less 77 is 13.
        firstPoint(12, 0, 2, 90, 0, 3, 1, 78, 0, 6, 0, 0);
        reads(-104, 2, 90, 0, 3, 1, 77, 0, 6, 0, 0);
        // -100 less -112 is 12, less -113 is 13.
        firstPoint(12, 0, 2, -100, 0, 3, 1, -112, 0, 6, 0, 0);
        reads(-104, 2, -100, 0, 3, 1, -113, 0, 6, 0, 0);
    }

    /** POINTS: y -100 .. 100, "the ORIGIN's y and y", which MIRRORED doesn't turn. */
    private static void yWithin100() {
        for (int y = -128; y <= 127; y++) {
            if (y >= -100 && y <= 100) {
                firstPoint(0, y, 1, 0, y, 6, 0, 0);
                firstPoint(0, y, 3, 1, 0, y, 6, 0, 0);
            } else {
                reads(-100, 1, 0, y, 6, 0, 0);
            }
        }
        firstPoint(0, 100, 2, 0, 100, 1, 0, 0, 6, 0, 0);
        reads(-103, 2, 0, 100, 1, 0, 1, 6, 0, 0);
        reads(-103, 2, 0, 100, 1, 0, 127, 6, 0, 0);
        firstPoint(0, -28, 2, 0, 100, 1, 0, -128, 6, 0, 0);
        firstPoint(0, -100, 2, 0, -100, 1, 0, 0, 6, 0, 0);
        reads(-103, 2, 0, -100, 1, 0, -1, 6, 0, 0);
        reads(-103, 2, 0, -100, 1, 0, -128, 6, 0, 0);
        firstPoint(0, 27, 2, 0, -100, 1, 0, 127, 6, 0, 0);
        firstPoint(0, 100, 2, 0, -27, 1, 0, 127, 6, 0, 0);
        reads(-103, 2, 0, -26, 1, 0, 127, 6, 0, 0);
    }

    /** "the ORIGIN beyond 100 either way" */
    private static void originWithin100() {
        for (int by = -128; by <= 127; by++) {
            if (by >= -100 && by <= 100) {
                firstPoint(0, by, 2, 0, by, 1, 0, 0, 6, 0, 0);
                firstPoint(0, 0, 2, by, 0, 1, -by, 0, 6, 0, 0);
            } else {
                reads(-100, 2, 0, by, 1, 0, 0, 6, 0, 0);
                reads(-100, 2, by, 0, 1, 0, 0, 6, 0, 0);
            }
        }
        // To the edge in two, and one beyond it.
        reads(1, 2, 60, 0, 2, 40, 0, 2, -100, 0, 1, 0, 0, 6, 0, 0);
        reads(-103, 2, 60, 0, 2, 41, 0, 2, -100, 0, 1, 0, 0, 6, 0, 0);
        reads(1, 2, -60, 0, 2, -40, 0, 2, 100, 0, 1, 0, 0, 6, 0, 0);
        reads(-103, 2, -60, 0, 2, -41, 0, 2, 100, 0, 1, 0, 0, 6, 0, 0);
        reads(1, 2, 0, 60, 2, 0, 40, 1, 0, 0, 6, 0, 0);
        reads(-103, 2, 0, 60, 2, 0, 41, 1, 0, -1, 6, 0, 0);
        reads(1, 2, 0, -60, 2, 0, -40, 1, 0, 0, 6, 0, 0);
        reads(-103, 2, 0, -60, 2, 0, -41, 1, 0, 1, 6, 0, 0);
        // From one edge to the other: by 200 in two, never in one.
        reads(1, 2, -100, 100, 2, 100, -100, 2, 100, -100, 2, -100, 0, 1, 0, 0, 6, 0, 0);
        // Step by step in a 4: 9 times 11 is 99, and 12 beyond 100.
        firstPoint(0, 99, 4, 9, 2, 0, 11, 5, 1, 0, 0, 6, 0, 0);
        reads(-102, 4, 9, 2, 0, 12, 5, 1, 0, 0, 6, 0, 0);
    }

    private static void originMirrored() {
        reads(1, 3, 2, -100, 0, 3, 1, -100, 0, 6, 0, 0);
        reads(-101, 3, 2, -101, 0, 1, 0, 0, 6, 0, 0);
        reads(-101, 3, 2, -128, 0, 1, 0, 0, 6, 0, 0);
        reads(1, 3, 2, 100, 0, 3, 1, 100, 0, 6, 0, 0);
        reads(-101, 3, 2, 101, 0, 1, 0, 0, 6, 0, 0);
        reads(-104, 3, 2, -100, 0, 2, -1, 0, 1, 0, 0, 6, 0, 0);
        // y goes its own way while MIRRORED.
        firstPoint(0, 100, 3, 2, 0, 100, 1, 0, 0, 6, 0, 0);
        reads(-101, 3, 2, 0, 101, 1, 0, 0, 6, 0, 0);
        firstPoint(-3, 7, 3, 2, 3, 7, 1, 0, 0, 6, 0, 0);
        // Where the ORIGIN came to before stays as it is.
        firstPoint(3, 7, 2, 3, 7, 3, 1, 0, 0, 6, 0, 0);
    }

    /** An ADVANCE (-100 .. 100). */
    private static void advanceWithin100() {
        for (int a = -128; a <= 127; a++) {
            if (a >= -100 && a <= 100) {
                Due.due("advance " + a, reads(1, 1, 0, 0, 6, a, 0).advance(), a);
            } else {
                reads(-103, 1, 0, 0, 6, a, 0);
            }
        }
    }

    /** "the last one that comes counts"; each that comes must be as said. */
    private static void theLastAdvanceCounts() {
        Due.due("of two", reads(1, 6, 5, 1, 0, 0, 6, -7, 0).advance(), -7);
        Due.due("0 behind another", reads(1, 6, 5, 6, 0, 1, 0, 0, 0).advance(), 0);
        Due.due("behind the end", reads(1, 6, 5, 1, 0, 0, 0, 6, 9, 0).advance(), 5);
        Due.due("within times", reads(1, 1, 0, 0, 6, 3, 4, 2, 6, 4, 5, 0).advance(), 4);
        reads(-102, 6, 5, 6, 101, 1, 0, 0, 6, 5, 0);
        reads(-105, 6, 5, 1, 0, 0, 6, -101, 6, 5, 0);
    }

    /** "MIRRORED becomes not so, or so"; at first it isn't. */
    private static void mirroredOrNot() {
        for (int times = 0; times <= 9; times++) {
            long[] orders = new long[times];
            Arrays.fill(orders, 3);
            firstPoint(times % 2 == 0 ? 5 : -5, 0, joined(orders, 1, 5, 0, 6, 0, 0));
            if (times > 0) {
                firstPoint(times % 2 == 0 ? 5 : -5, 0, 4, times, 3, 5, 1, 5, 0, 6, 0, 0);
            }
        }
    }

    /** "comes n times (1 .. 9)" */
    private static void timesFrom1To9() {
        for (int n = -128; n <= 127; n++) {
            if (n >= 1 && n <= 9) {
                CamStitch x = reads(n, 4, n, 2, 1, 3, 1, 0, 0, 5, 6, 0, 0);
                Due.due("x of the last of " + n, x.point(n - 1, 0), n);
                Due.due("y of the last of " + n, x.point(n - 1, 1), 3 * n);
            } else {
                reads(-100, 4, n, 2, 1, 3, 1, 0, 0, 5, 6, 0, 0);
            }
        }
        // A 4 that can't be done is a fault ahead of what stands in it.
        reads(-100, 4, 0, 99, 5);
        reads(-103, 1, 0, 0, 4, 10, 99);
    }

    /** "such may stand within one another, 3 deep at most"; what has ended doesn't count. */
    private static void threeDeepAtMost() {
        reads(1, 4, 1, 1, 0, 0, 5, 6, 0, 0);
        reads(1, 4, 1, 4, 1, 1, 0, 0, 5, 5, 6, 0, 0);
        reads(1, 4, 1, 4, 1, 4, 1, 1, 0, 0, 5, 5, 5, 6, 0, 0);
        reads(-106, 4, 1, 4, 1, 4, 1, 4, 1, 1, 0, 0, 5, 5, 5, 5, 6, 0, 0);
        reads(1, 4, 1, 5, 4, 1, 5, 4, 1, 5, 4, 1, 5, 1, 0, 0, 6, 0, 0);
        reads(1, 4, 2, 4, 2, 4, 2, 5, 4, 2, 5, 5, 4, 2, 4, 2, 5, 5, 5, 1, 0, 0, 6, 0, 0);
        reads(-112, 4, 1, 4, 1, 4, 1, 5, 5, 4, 1, 4, 9, 4, 1, 5, 5, 5, 5);
        reads(1, 4, 1, 4, 1, 4, 1, 5, 4, 1, 5, 5, 5, 1, 0, 0, 6, 0, 0);
        reads(8, 4, 2, 4, 2, 4, 2, 1, 0, 0, 5, 5, 5, 6, 0, 0);
    }

    /** "a 5 without a 4" */
    private static void endsWithoutTimes() {
        reads(-100, 5, 1, 0, 0, 6, 0, 0);
        reads(-103, 4, 9, 5, 5, 1, 0, 0, 6, 0, 0);
        reads(-107, 4, 2, 4, 2, 3, 5, 5, 5, 1, 0, 0, 6, 0, 0);
        reads(-105, 1, 0, 0, 6, 0, 5, 0);
        // The first 5 ends the last 4, the second one the first: 3 times (1 and 2 times 1).
        reads(9, 4, 3, 1, 0, 0, 4, 2, 1, 1, 1, 5, 5, 6, 0, 0);
    }

    /** "a 0 within a 4": at its first coming, whatever was told before. */
    private static void theEndWithinTimes() {
        reads(-107, 1, 0, 0, 6, 0, 4, 1, 0, 5, 0);
        reads(-109, 1, 0, 0, 6, 0, 4, 1, 4, 1, 0, 5, 5, 0);
        reads(-111, 1, 0, 0, 6, 0, 4, 1, 4, 1, 4, 1, 0, 5, 5, 5, 0);
        reads(-110, 1, 0, 0, 6, 0, 4, 1, 4, 1, 5, 0, 5, 0);
        reads(1, 1, 0, 0, 6, 0, 4, 1, 4, 1, 5, 5, 0);
        reads(-102, 4, 1, 0);
    }

    private static void theEndWithoutPointsOrAdvance() {
        reads(-100, 0);
        reads(-102, 6, 0, 0, 1, 0, 0, 0);
        reads(-103, 1, 0, 0, 0, 6, 0, 0);
        reads(-103, 2, 5, 5, 0);
        reads(-101, 3, 0);
        reads(1, 1, 0, 0, 6, 0, 0);
        reads(1, 6, 0, 1, 0, 0, 0);
    }

    /** "no such ORDER": 0 to 6 are the ORDERS. */
    private static void noSuchOrder() {
        for (int order = -128; order <= 127; order++) {
            if (order < 0 || order > 6) {
                reads(-100, order, 0, 0, 0);
                reads(-105, 1, 0, 0, 6, 0, order, 0);
                reads(-100, order);
            }
        }
    }

    /** "a number of it lacks": the row ends ahead of it. */
    private static void numbersThatLack() {
        reads(-105, 1, 0, 0, 6, 0, 1);
        reads(-105, 1, 0, 0, 6, 0, 1, 0);
        reads(-108, 1, 0, 0, 6, 0, 1, 0, 0);
        reads(-105, 1, 0, 0, 6, 0, 2);
        reads(-105, 1, 0, 0, 6, 0, 2, 0);
        reads(-108, 1, 0, 0, 6, 0, 2, 0, 0);
        reads(-105, 1, 0, 0, 6, 0, 4);
        reads(-107, 1, 0, 0, 6, 0, 4, 1);
        reads(-105, 1, 0, 0, 6, 0, 6);
        reads(-107, 1, 0, 0, 6, 0, 6, 1);
        reads(-106, 1, 0, 0, 6, 0, 3);
        reads(-100, 1);
        reads(-100, 2);
        reads(-100, 4);
        reads(-100, 6);
        reads(-101, 3);
        reads(-100, 5);
        // At the end of the longest row: the numbers are there, or lack by one.
        int[][] ends = {{1, 2}, {2, 2}, {4, 1}, {6, 1}};
        for (int[] end : ends) {
            for (int behind = 0; behind <= end[1]; behind++) {
                long[] orders = new long[400];
                Arrays.fill(orders, 3);
                Arrays.fill(orders, 399 - behind, 400, 1);
                orders[399 - behind] = end[0];
                reads(behind < end[1] ? -100 - (399 - behind) : -500, orders);
            }
        }
    }

    /** "or the row's length, if it ends without a 0" */
    private static void rowsWithoutAnEnd() {
        reads(-100);
        reads(-105, 1, 0, 0, 6, 0);
        reads(1, 1, 0, 0, 6, 0, 0);
        reads(-107, 1, 0, 0, 6, 0, 4, 9);
        reads(-108, 1, 0, 0, 6, 0, 4, 9, 5);
        for (int n = 1; n <= 9; n++) {
            long[] orders = new long[n];
            Arrays.fill(orders, 3);
            reads(-100 - n, orders);
        }
        long[] longest = new long[400];
        Arrays.fill(longest, 3);
        reads(-500, longest);
        longest[394] = 1;
        longest[395] = 0;
        longest[396] = 0;
        longest[397] = 6;
        longest[398] = 0;
        longest[399] = 0;
        reads(1, longest);
    }

    /** "the place of the first ORDER, as they come, that can't be done" */
    private static void faultsAsTheyCome() {
        // What stands behind a fault isn't looked at, nor what stands behind the end.
        reads(-100, 9, 8, 7);
        reads(1, 1, 0, 0, 6, 0, 0, 9, 5, 1);
        // The third time round, x is 13: its place, though a fault stands behind the 5.
        reads(-102, 4, 9, 1, 6, 0, 2, 4, 0, 5, 9);
        reads(-110, 4, 1, 1, 6, 0, 2, 4, 0, 5, 3, 9);
        // The ORIGIN in a 4 goes beyond 100 the fourth time.
        reads(-105, 1, 0, 0, 4, 9, 2, 0, 30, 1, 0, 0, 5, 9);
        // y is 101 behind the ORIGIN's fourth time.
        reads(-108, 1, 0, 0, 4, 9, 2, 0, 25, 1, 0, 1, 5, 9);
        // The same ORDER is done MIRRORED, and not done when it isn't.
        reads(-105, 2, 12, 0, 3, 3, 1, 1, 0, 6, 0, 0);
        firstPoint(11, 0, 2, 12, 0, 3, 1, 1, 0, 6, 0, 0);
    }

    /** "(the PATTERN stays as it was)" */
    private static void aFaultLeavesThePattern() {
        long[][] faults = {{}, {9}, {1}, {1, 13, 0}, {2, 101, 0}, {6, 101}, {4, 0}, {5}, {0}, {1, 7, 7, 6, 50}, {1, 7, 7, 6, 50, 9},
            {6, 50, 0}, {4, 2, 1, 7, 7, 6, 50, 0}};
        for (long[] fault : faults) {
            CamStitch none = new CamStitch();
            Due.due("a fault, no pattern", Due.read(none, fault) <= -100 ? 1 : 0, 1);
            Due.due("still none", none.make(1, 1), -3);
            Due.state("still none", () -> none.advance());
            CamStitch x = reads(2, 1, 3, 4, 1, 5, 6, 6, 7, 0);
            Due.due("a fault behind a pattern", Due.read(x, fault) <= -100 ? 1 : 0, 1);
            int[] seen = {x.count(0), x.point(0, 0), x.point(0, 1), x.point(1, 0), x.point(1, 1), x.advance()};
            Due.same("the pattern stays", Arrays.toString(seen), "[2, 3, 4, 5, 6, 7]");
            Due.due("the refusals of the host's are none", x.count(5), 0);
        }
    }

    /** "At first the ORIGIN is 0, 0, and it isn't MIRRORED": at the first ORDER of each reading. */
    private static void eachReadingBeginsAnew() {
        CamStitch x = reads(1, 3, 2, -9, 9, 1, 0, 0, 6, 33, 0);
        Due.due("another", Due.read(x, 1, 2, 3, 6, 4, 0), 1);
        int[] seen = {x.point(0, 0), x.point(0, 1), x.advance()};
        Due.same("from 0, 0", Arrays.toString(seen), "[2, 3, 4]");
        Due.due("no advance is left from before", Due.read(x, 1, 2, 3, 0), -103);
        Due.due("no point is left from before", Due.read(x, 6, 4, 0), -102);
        Due.due("no 4 is left from before", Due.read(x, 4, 2, 1, 0, 0), -105);
        Due.due("no 4 is left from before", Due.read(x, 5), -100);
        Due.due("fewer points than before", Due.read(x, 1, 1, 1, 1, 2, 2, 6, 0, 0), 2);
        Due.due("fewer points than before", Due.read(x, 1, 9, 9, 6, 0, 0), 1);
        Due.state("the second is of before", () -> x.point(1, 0));
    }

    private static void numbersOfPoints() {
        CamStitch x = reads(24, joined(points(24), 6, -100, 0));
        int[] beyond = {-1, 24, 25, 256, 65536, Integer.MIN_VALUE, Integer.MAX_VALUE};
        for (int k : beyond) {
            Due.state("point(" + k + ", 0)", () -> x.point(k, 0));
            Due.state("point(" + k + ", 1)", () -> x.point(k, 1));
        }
        Due.due("the first x", x.point(0, 0), 0);
        Due.due("the last x", x.point(23, 0), 10);
        Due.due("the first y", x.point(0, 1), 0);
        Due.due("the last y", x.point(23, 1), 23);
        Due.due("the least advance", x.advance(), -100);
        x.begin();
        Due.state("no pattern behind begin()", () -> x.advance());
        Due.state("no pattern behind begin()", () -> x.point(0, 0));
    }
}
