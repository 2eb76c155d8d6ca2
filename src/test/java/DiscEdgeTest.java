import java.util.Arrays;

/** I, DISC, and promises 6 to 13: each sentence that names a boundary, on both of its sides. */
public final class DiscEdgeTest {
    public static void main(String[] args) {
        partsFrom1To12();
        from1To48Stitches();
        theLeastNumberOfParts();
        theGreatestWholeNumber();
        fromTheLastToTheFirst();
        allWays();
        measuresOfOne();
        measuresOf48();
        steepBetweenAll();
        filedWithin12();
        filedFirstAndLast();
        makesFromTheFirstPoint();
        makesTheEnd();
        makesEachAlone();
        makesInOrder();
        makes24And48();
        shelvesFrom0To7();
        takenStays();
        turnedFromEach();
        turnedMirrored();
        Due.end("DiscEdgeTest");
    }

    private static CamStitch pattern(long... orders) {
        CamStitch x = new CamStitch();
        Due.due("read", Due.read(x, orders) > 0 ? 1 : 0, 1);
        return x;
    }

    /** A room whose DISC at work has 48 STITCHES, filed with these one after the other. */
    private static CamStitch disc48(int[] swings, int[] feeds) {
        CamStitch x = pattern(1, 0, 0, 6, 48, 0);
        Due.due("make", x.make(1, 1), 48);
        for (int j = 0; j < 48; j++) {
            Due.due("file", x.file(j, swings[j % swings.length], feeds[j % feeds.length]), 1);
        }
        return x;
    }

    /** "by S and F (1 .. 12)" */
    private static void partsFrom1To12() {
        for (int part = -1; part <= 14; part++) {
            CamStitch x = pattern(1, 0, 0, 1, 6, 6, 6, 12, 0);
            boolean is = part >= 1 && part <= 12;
            // The two ways are 6 across and 6 along.
            int due = is ? 2 * Math.max(1, (6 + part - 1) / part) : -1;
            Due.due("S " + part, x.make(part, 12), due);
            Due.due("F " + part, x.make(12, part), due);
            Due.due("none of both", x.make(part, part), due);
        }
    }

    /** "DISC: 1 to 48 STITCHES"; "FULL: more than 48". */
    private static void from1To48Stitches() {
        CamStitch one = pattern(1, 12, 100, 6, 0, 0);
        Due.due("one", one.make(1, 1), 1);
        Due.stitches(one, "one", 12, 0);
        for (int n = 46; n <= 50; n++) {
            CamStitch x = pattern(1, 0, 0, 6, n, 0);
            Due.due("make " + n, x.make(12, 1), n <= 48 ? n : -2);
            if (n <= 48) {
                Due.due("stitches", x.disc(0), n);
                int last = n - 1;
                Due.due("the last", x.stitch(last, 1), 1);
                Due.state("beyond the last", () -> x.stitch(last + 1, 1));
            } else {
                Due.state("none at work still", () -> x.disc(0));
                Due.due("nothing to lay", x.lay(0), -3);
            }
        }
        // As far as a PATTERN can go: 23 ways of 200, and one of 300 back.
        long[] far = new long[75];
        for (int k = 0; k < 24; k++) {
            far[3 * k] = 1;
            far[3 * k + 1] = k % 2 == 0 ? -12 : 12;
            far[3 * k + 2] = k % 2 == 0 ? 100 : -100;
        }
        far[72] = 6;
        far[73] = 100;
        CamStitch x = pattern(far);
        Due.due("24 ways of 200 and 300", x.make(1, 1), -2);
        Due.due("24 ways of 17 and 25", x.make(12, 12), -2);
    }

    /** "n the least number from 1 on with n S not below |dx| and n F not below |dy|" */
    private static void theLeastNumberOfParts() {
        for (int far = 0; far <= 12; far++) {
            CamStitch across = pattern(1, 0, 0, 1, far, 0, 6, 0, 0);
            CamStitch back = pattern(1, 0, 0, 1, -far, 0, 6, 0, 0);
            CamStitch along = pattern(1, 0, 0, 6, far, 0);
            CamStitch down = pattern(1, 0, 0, 6, -far, 0);
            for (int part = 1; part <= 12; part++) {
                int n = far <= part ? 1 : far <= 2 * part ? 2 : far <= 3 * part ? 3 : far <= 4 * part ? 4
                    : far <= 5 * part ? 5 : far <= 6 * part ? 6 : far;
                Due.due(far + " across by " + part, across.make(part, 1), 2 * n);
                Due.due(far + " back across by " + part, back.make(part, 1), 2 * n);
                Due.due(far + " along by " + part, along.make(1, part), n);
                Due.due(far + " back along by " + part, down.make(1, part), n);
            }
        }
        // The one that wants more parts counts.
        CamStitch x = pattern(1, 0, 0, 1, 8, 9, 6, 9, 0);
        Due.due("8 by 4, 9 by 9", x.make(4, 9), 4);
        Due.due("8 by 8, 9 by 3", x.make(8, 3), 4);
        Due.due("8 by 8, 9 by 9", x.make(8, 9), 2);
    }

    /** "the greatest whole numbers not above dx i / n, dy i / n" */
    private static void theGreatestWholeNumber() {
        CamStitch x = pattern(1, 0, 0, 1, -1, 3, 6, 6, 0);
        Due.due("make", x.make(1, 1), 6);
        // -1/3, -2/3, -3/3 are -1 each; back by 1/3, 2/3, 3/3: 0, 0, 1.
        Due.stitches(x, "across by thirds", -1, 1, -1, 1, -1, 1, -1, 1, -1, 1, 0, 1);
        x = pattern(1, 0, 0, 1, 3, -1, 6, 0, 0);
        Due.due("make", x.make(1, 1), 6);
        Due.stitches(x, "along by thirds", 1, -1, 2, 0, 3, 0, 2, 0, 1, 0, 0, 1);
        x = pattern(1, -5, 0, 1, 2, 0, 6, -7, 0);
        Due.due("make", x.make(3, 3), 6);
        // 7/3: -3, -1, 2. Then -7/3: -1, -3, -5; -7/3 along: -3, -5, -7.
        Due.stitches(x, "sevenths by thirds", -3, 0, -1, 0, 2, 0, -1, -3, -3, -2, -5, -2);
    }

    /** "(from the last to the first one, with its y and the ADVANCE)" */
    private static void fromTheLastToTheFirst() {
        CamStitch x = pattern(1, 3, 10, 1, 3, 15, 6, -4, 0);
        Due.due("make", x.make(12, 12), 2);
        // From 15 to 10 less 4.
        Due.stitches(x, "back by the advance", 3, 5, 3, -9);
        Due.due("length", x.disc(1), -4);
        x = pattern(1, 3, 100, 6, -100, 0);
        Due.due("make", x.make(12, 12), 9);
        Due.due("length", x.disc(1), -100);
        x = pattern(1, 0, 100, 1, 0, -100, 6, 100, 0);
        // 200 and 300.
        Due.due("make", x.make(12, 12), 17 + 25);
        Due.due("length", x.disc(1), 100);
        x = pattern(1, 0, -100, 1, 0, 100, 6, -100, 0);
        Due.due("make", x.make(12, 12), 17 + 25);
        Due.due("length", x.disc(1), -100);
    }

    /** Each way's end is stood at, each change is at most S or F rounded up, whatever the way. */
    private static void allWays() {
        for (int dx = -24; dx <= 24; dx += 3) {
            for (int dy = -100; dy <= 100; dy += 7) {
                int from = dx > 0 ? -12 : 12;
                CamStitch x = pattern(1, from, 0, 1, from + dx, dy, 6, dy, 0);
                for (int s = 1; s <= 12; s += 5) {
                    way(x, from, dx, dy, s, 12 - s / 2);
                }
            }
        }
    }

    private static void way(CamStitch x, int from, int dx, int dy, int s, int f) {
        int n = 1;
        while (n * s < Math.abs(dx) || n * f < Math.abs(dy)) {
            n++;
        }
        int back = 1;
        while (back * s < Math.abs(dx)) {
            back++;
        }
        if (n + back > 48) {
            Due.due("way of " + n + " and " + back, x.make(s, f), -2);
            return;
        }
        Due.due("way of " + n + " and " + back, x.make(s, f), n + back);
        int stood = 0;
        for (int i = 1; i <= n; i++) {
            int y = (int) Math.floor((double) dy * i / n);
            Due.due("swing", x.stitch(i - 1, 0), from + (int) Math.floor((double) dx * i / n));
            Due.due("feed", x.stitch(i - 1, 1), y - stood);
            stood = y;
        }
        Due.due("makes it", x.makes(), 9999);
    }

    /** "also from the last to the first": of one STITCH that is no change. */
    private static void measuresOfOne() {
        CamStitch x = new CamStitch();
        Due.work(x, -12, -12);
        int[] due = {1, -12, 0, -12, -12, -12, -12};
        for (int what = 0; what <= 6; what++) {
            Due.due("one: disc " + what, x.disc(what), due[what]);
        }
        Due.argument("disc -1", () -> x.disc(-1));
        Due.argument("disc 7", () -> x.disc(7));
        Due.state("stitch 1", () -> x.stitch(1, 0));
        Due.state("stitch -1", () -> x.stitch(-1, 0));
    }

    private static void measuresOf48() {
        CamStitch most = disc48(new int[] {12, -12}, new int[] {12});
        CamStitch least = disc48(new int[] {-12}, new int[] {-12});
        int[] dueOfMost = {48, 576, 24, 12, -12, 12, 12};
        int[] dueOfLeast = {48, -576, 0, -12, -12, -12, -12};
        for (int what = 0; what <= 6; what++) {
            Due.due("most: disc " + what, most.disc(what), dueOfMost[what]);
            Due.due("least: disc " + what, least.disc(what), dueOfLeast[what]);
        }
        // The greatest and the least at the first STITCH, at the last one, and within.
        int[] places = {0, 23, 47};
        for (int j : places) {
            CamStitch x = disc48(new int[] {3}, new int[] {-1});
            x.file(j, 9, 7);
            Due.due("greatest swing at " + j, x.disc(3), 9);
            Due.due("least swing", x.disc(4), 3);
            Due.due("greatest feed at " + j, x.disc(5), 7);
            Due.due("least feed", x.disc(6), -1);
            Due.due("steep", x.disc(2), 6);
            x.file(j, -9, -7);
            Due.due("greatest swing", x.disc(3), 3);
            Due.due("least swing at " + j, x.disc(4), -9);
            Due.due("greatest feed", x.disc(5), -1);
            Due.due("least feed at " + j, x.disc(6), -7);
            Due.due("steep", x.disc(2), 12);
            Due.due("length", x.disc(1), -47 - 7);
        }
    }

    /** STEEP: "the greatest change from a SWING to the next (also from the last to the first)" */
    private static void steepBetweenAll() {
        CamStitch x = new CamStitch();
        Due.work(x, 0, 0, 1, 0, 3, 0, 6, 0, 10, 0);
        Due.due("from the last to the first", x.disc(2), 10);
        Due.due("turn", x.turn(4, 0), 1);
        Due.due("from the first to the second", x.disc(2), 10);
        Due.due("turn", x.turn(4, 0), 1);
        Due.due("from the last but one to the last", x.disc(2), 10);
        Due.work(x, 12, 0, -12, 0);
        Due.due("as steep as can be", x.disc(2), 24);
        Due.work(x, 5, 0, 5, 1, 5, -1);
        Due.due("not steep", x.disc(2), 0);
        Due.work(x, 5, 0, 4, 0, 5, 0);
        Due.due("by 1 down and up", x.disc(2), 1);
    }

    /** "each a SWING (-12 .. 12) and a FEED (-12 .. 12)" */
    private static void filedWithin12() {
        for (int w = -14; w <= 14; w++) {
            CamStitch x = new CamStitch();
            Due.work(x, 1, 2, 3, 4);
            boolean is = w >= -12 && w <= 12;
            Due.due("swing " + w, x.file(1, w, 5), is ? 1 : -1);
            Due.stitches(x, "swing " + w, 1, 2, is ? w : 3, is ? 5 : 4);
            Due.due("feed " + w, x.file(0, 6, w), is ? 1 : -1);
            Due.stitches(x, "feed " + w, is ? 6 : 1, is ? w : 2, is ? w : 3, is ? 5 : 4);
        }
    }

    private static void filedFirstAndLast() {
        CamStitch x = disc48(new int[] {0}, new int[] {1});
        Due.due("the first", x.file(0, 12, -12), 1);
        Due.due("the last", x.file(47, -12, 12), 1);
        Due.due("one beyond", x.file(48, 0, 0), -1);
        Due.due("one before", x.file(-1, 0, 0), -1);
        Due.due("swing of the first", x.stitch(0, 0), 12);
        Due.due("feed of the first", x.stitch(0, 1), -12);
        Due.due("swing of the last", x.stitch(47, 0), -12);
        Due.due("feed of the last", x.stitch(47, 1), 12);
        Due.due("the second is as it was", x.stitch(1, 0), 0);
        Due.due("length", x.disc(1), 46);
    }

    /** "from the first POINT on": it is where the round begins, and no STITCH must stand at it. */
    private static void makesFromTheFirstPoint() {
        CamStitch x = pattern(1, 4, -100, 1, 5, -99, 6, 2, 0);
        Due.due("no disc", x.makes(), -3);
        Due.due("make", x.make(1, 1), 2);
        Due.due("as made", x.makes(), 9999);
        x.file(0, 5, 2);
        Due.due("y is 1 too much for the point", x.makes(), 1);
        x.file(0, 5, 0);
        Due.due("y is 1 too little for the point", x.makes(), 1);
        x.file(0, 6, 1);
        Due.due("x is 1 too much for the point", x.makes(), 1);
        x.file(0, 4, 1);
        Due.due("x is 1 too little for the point", x.makes(), 1);
        CamStitch none = new CamStitch();
        Due.work(none, 0, 0);
        Due.due("a pattern", none.makes(), 9999);
        // "BARE: there is no PATTERN, or no DISC at work": a DISC alone comes from a TAPE behind begin().
        none.keep(0);
        none.begin();
        Due.due("neither", none.makes(), -3);
        Due.due("a disc", none.back(0), 1);
        Due.due("no pattern", none.makes(), -3);
        Due.due("no pattern to make", none.make(1, 1), -3);
    }

    /** "the last STITCH at the first POINT with the ADVANCE"; "the count of POINTS stands for that end". */
    private static void makesTheEnd() {
        for (int n = 1; n <= 3; n++) {
            long[] orders = {1, 4, 10, 1, 5, 11, 1, 6, 12, 6, -9, 0};
            long[] told = n == 3 ? orders : n == 2 ? new long[] {1, 4, 10, 1, 5, 11, 6, -9, 0} : new long[] {1, 4, 10, 6, -9, 0};
            CamStitch x = pattern(told);
            int stitches = x.make(12, 12);
            int last = stitches - 1;
            int feed = x.stitch(last, 1);
            Due.due("as made, points " + n, x.makes(), 9999);
            x.file(last, 5, feed);
            Due.due("x is 1 too much at the end", x.makes(), n);
            x.file(last, 3, feed);
            Due.due("x is 1 too little at the end", x.makes(), n);
            x.file(last, 4, feed + 1);
            Due.due("y is 1 too much at the end", x.makes(), n);
            x.file(last, 4, feed - 1);
            Due.due("y is 1 too little at the end", x.makes(), n);
            x.file(last, 4, feed);
            Due.due("as made again", x.makes(), 9999);
        }
        // It stood at the end's place before, and went on from there: the last STITCH is what counts.
        CamStitch y = new CamStitch();
        Due.work(y, 0, 5, 0, 1);
        Due.read(y, 1, 0, 0, 6, 5, 0);
        Due.due("at the end too early", y.makes(), 1);
        y.file(1, 0, 0);
        Due.due("there, and there again", y.makes(), 9999);
    }

    /** "a STITCH counts for one POINT, or for that end, alone" */
    private static void makesEachAlone() {
        // Three POINTS at one place: as many STITCHES are wanted there.
        CamStitch x = new CamStitch();
        for (int n = 1; n <= 3; n++) {
            int[] there = new int[2 * n + 2];
            for (int j = 0; j < n; j++) {
                there[2 * j] = 2;
                there[2 * j + 1] = j == 0 ? 1 : 0;
            }
            there[2 * n + 1] = 1;
            Due.work(x, there);
            Due.read(x, 1, 0, 0, 1, 2, 1, 1, 2, 1, 1, 2, 1, 6, 2, 0);
            Due.due(n + " stitches for 3 points", x.makes(), n < 3 ? n + 1 : 9999);
        }
        // The last STITCH stands at a POINT and at the end: it counts for the POINT, as it comes ahead.
        for (int n = 1; n <= 3; n++) {
            int[] there = new int[2 * n];
            there[1] = 3;
            Due.work(x, there);
            Due.read(x, 1, 0, 0, 1, 0, 3, 6, 3, 0);
            Due.due(n + " stitches for a point and the end", x.makes(), n < 2 ? 2 : 9999);
            Due.read(x, 1, 0, 0, 1, 0, 3, 1, 0, 3, 6, 3, 0);
            Due.due(n + " stitches for 2 points and the end", x.makes(), n < 2 ? 2 : n < 3 ? 3 : 9999);
        }
        // The first POINT again: where the round begins is no STITCH.
        Due.work(x, 1, 1, 0, 1);
        Due.read(x, 1, 0, 0, 1, 0, 0, 6, 2, 0);
        Due.due("the first point's place a second time", x.makes(), 1);
    }

    /** "all its POINTS are stood at in order", "each as early as can be" */
    private static void makesInOrder() {
        CamStitch x = new CamStitch();
        // At 1 1, 2 2, 1 1, 3 3, and 0 4 at the end.
        Due.work(x, 1, 1, 2, 1, 1, -1, 3, 2, 0, 1);
        Due.read(x, 1, 0, 0, 1, 1, 1, 1, 2, 2, 1, 3, 3, 6, 4, 0);
        Due.due("in order", x.makes(), 9999);
        Due.read(x, 1, 0, 0, 1, 2, 2, 1, 1, 1, 1, 3, 3, 6, 4, 0);
        Due.due("the later one of the same place", x.makes(), 9999);
        Due.read(x, 1, 0, 0, 1, 3, 3, 1, 1, 1, 6, 4, 0);
        Due.due("out of order", x.makes(), 2);
        Due.read(x, 1, 0, 0, 1, 1, 1, 1, 1, 1, 1, 2, 2, 6, 4, 0);
        Due.due("too late for the third", x.makes(), 3);
        Due.read(x, 1, 0, 0, 1, 1, 1, 1, 4, 4, 1, 3, 3, 6, 4, 0);
        Due.due("the first that isn't", x.makes(), 2);
        Due.read(x, 1, 0, 0, 1, 1, 1, 1, 4, 4, 1, 3, 3, 6, 5, 0);
        Due.due("the first that isn't, ahead of the end", x.makes(), 2);
        // "in one round": a second round isn't looked at.
        Due.read(x, 1, 0, 0, 1, 1, 5, 6, 4, 0);
        Due.due("in the next round only", x.makes(), 1);
    }

    private static void makes24And48() {
        CamStitch x = pattern(2, -12, 0, 4, 8, 4, 3, 1, 0, 0, 2, 1, 2, 5, 5, 6, 46, 0);
        Due.due("make", x.make(12, 1), 48);
        Due.due("24 points, 48 stitches", x.makes(), 9999);
        // STITCHES 1, 3, .. 45 stand at POINTS 1, 2, .. 23.
        x.file(45, 12, 1);
        Due.due("the last point isn't", x.makes(), 23);
        x.file(1, 12, 1);
        Due.due("the second point isn't", x.makes(), 1);
        x.file(1, -11, 1);
        x.file(45, 11, 1);
        Due.due("all are", x.makes(), 9999);
        x.file(47, -11, 0);
        Due.due("the end isn't", x.makes(), 24);
    }

    /** "SHELVES 0 .. 7 hold DISCS." */
    private static void shelvesFrom0To7() {
        CamStitch x = new CamStitch();
        Due.work(x, 1, 1);
        for (int k = -2; k <= 9; k++) {
            boolean is = k >= 0 && k <= 7;
            Due.due("take(" + k + ") ahead", x.take(k), is ? -3 : -1);
            Due.due("lay(" + k + ")", x.lay(k), is ? 1 : -1);
            Due.due("shelves behind " + k, x.count(1), k < 0 ? 0 : Math.min(8, k + 1));
            Due.due("take(" + k + ")", x.take(k), is ? 1 : -1);
        }
        Due.due("lay on a full shelf", x.lay(3), 1);
        Due.due("shelves", x.count(1), 8);
        x.begin();
        for (int k = 0; k <= 7; k++) {
            Due.due("lay none on " + k, x.lay(k), -3);
            Due.due("take from " + k, x.take(k), -3);
        }
    }

    /** "(it stays at work)", "(and stays there)", of one STITCH and of 48. */
    private static void takenStays() {
        CamStitch x = disc48(new int[] {1, -1}, new int[] {3, 4});
        Due.due("lay 48", x.lay(0), 48);
        Due.due("at work still", x.disc(1), 24 * 7);
        Due.work(x, 9, -9);
        Due.due("lay 1", x.lay(7), 1);
        for (int times = 0; times < 2; times++) {
            Due.due("take 48", x.take(0), 48);
            Due.due("length of 48", x.disc(1), 24 * 7);
            Due.due("the last of 48", x.stitch(47, 1), 4);
            Due.due("take 1", x.take(7), 1);
            Due.stitches(x, "one", 9, -9);
        }
    }

    /** "from its STITCH j on (j is its first then)" */
    private static void turnedFromEach() {
        for (int j = -1; j <= 4; j++) {
            CamStitch x = new CamStitch();
            Due.work(x, 1, 2, 3, 4, 5, 6, 7, 8);
            boolean is = j >= 0 && j < 4;
            Due.due("turn(" + j + ", 0)", x.turn(j, 0), is ? 1 : -1);
            int[] due = new int[8];
            for (int i = 0; i < 8; i++) {
                due[i] = (is ? (i + 2 * j) % 8 : i) + 1;
            }
            Due.stitches(x, "turned " + j, due);
        }
        CamStitch x = disc48(new int[] {0}, new int[] {0});
        x.file(47, 5, 6);
        Due.due("turn(47, 0)", x.turn(47, 0), 1);
        Due.due("the last is the first", x.stitch(0, 0), 5);
        Due.due("turn(48, 0)", x.turn(48, 0), -1);
        Due.due("turn(1, 0)", x.turn(1, 0), 1);
        Due.due("the first is the last", x.stitch(47, 1), 6);
        CamStitch one = new CamStitch();
        Due.work(one, 5, 6);
        Due.due("turn one", one.turn(0, 1), 1);
        Due.stitches(one, "one", -5, 6);
        Due.due("turn one by 1", one.turn(1, 1), -1);
        Due.stitches(one, "one", -5, 6);
    }

    /** "With mirror 1 all its SWINGS change their signs besides." */
    private static void turnedMirrored() {
        CamStitch x = new CamStitch();
        for (int mirror = -1; mirror <= 2; mirror++) {
            Due.work(x, -12, 12, 12, -12, 0, 0);
            boolean is = mirror == 0 || mirror == 1;
            Due.due("turn(0, " + mirror + ")", x.turn(0, mirror), is ? 1 : -1);
            int by = mirror == 1 ? -1 : 1;
            Due.stitches(x, "mirror " + mirror, by * -12, 12, by * 12, -12, 0, 0);
        }
        Due.due("mirrored twice", x.turn(0, 1) + x.turn(0, 1), 2);
        Due.stitches(x, "mirrored twice", -12, 12, 12, -12, 0, 0);
        Due.same("all", Arrays.toString(new int[] {x.disc(2), x.disc(3), x.disc(4)}), "[24, 12, -12]");
    }
}
