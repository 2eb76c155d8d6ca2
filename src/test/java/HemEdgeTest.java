import java.util.Arrays;

/** II, HEM, and promises 14 to 20: each sentence that names a boundary, on both of its sides. */
public final class HemEdgeTest {
    public static void main(String[] args) {
        from1To8Sides();
        lengthsFrom1To999();
        lengthAbove0();
        roundsNearestTo0();
        restSpread();
        fitsWithin12();
        changeEitherWay();
        meetsIfAllFit();
        fedFirstAndLast();
        feedsUpTo400();
        feedsTakeATape();
        judgedEachWithin12();
        judgedByTheChange();
        judgedByTheSum();
        judgedTheFirstPlace();
        judgedTooFew();
        judgedBeyond();
        judgedMoreThanARowHolds();
        hemForTheDiscAtWork();
        Due.end("HemEdgeTest");
    }

    private static CamStitch room(int... feeds) {
        CamStitch x = new CamStitch();
        int[] stitches = new int[2 * feeds.length];
        for (int j = 0; j < feeds.length; j++) {
            stitches[2 * j + 1] = feeds[j];
        }
        Due.work(x, stitches);
        return x;
    }

    /** "HEM: 1 to 8 SIDES" */
    private static void from1To8Sides() {
        CamStitch x = room(5);
        Due.due("meets of none", x.meets(), -3);
        Due.due("sideless of none", x.sideless(), 0);
        Due.state("side 0 of none", () -> x.hem(0, 0));
        for (int n = 1; n <= 8; n++) {
            Due.due("side " + n, x.side(5 * n), n);
            Due.due("sides", x.count(2), n);
            int last = n - 1;
            Due.due("rounds of the last", x.hem(last, 0), n);
            Due.state("one more than " + n, () -> x.hem(last + 1, 0));
            Due.state("one more than " + n, () -> x.fed(last + 1, 0));
            Due.due("meets", x.meets(), 1);
        }
        Due.due("a ninth", x.side(5), -2);
        Due.due("sides", x.count(2), 8);
        Due.state("a ninth", () -> x.hem(8, 0));
        Due.due("the first stays", x.hem(0, 0), 1);
        Due.due("the last stays", x.hem(7, 0), 8);
        Due.due("sideless", x.sideless(), 8);
        Due.state("the first is gone", () -> x.hem(0, 0));
        Due.due("meets of none", x.meets(), -3);
        Due.due("the first again", x.side(999), 1);
    }

    /** "lengths 1 .. 999" */
    private static void lengthsFrom1To999() {
        for (int length = -1; length <= 1001; length++) {
            boolean is = length >= 1 && length <= 999;
            CamStitch x = new CamStitch();
            Due.due("side(" + length + ")", x.side(length), is ? 1 : -1);
            Due.due("sides", x.count(2), is ? 1 : 0);
        }
        CamStitch x = room(1);
        x.side(1);
        x.side(999);
        Due.due("rounds of 1", x.hem(0, 0), 1);
        Due.due("rounds of 999", x.hem(1, 0), 999);
    }

    /** "for the DISC at work (its LENGTH above 0)" */
    private static void lengthAbove0() {
        for (int length = -2; length <= 2; length++) {
            CamStitch x = room(10, length - 10);
            x.side(6);
            if (length > 0) {
                Due.due("rounds by " + length, x.hem(0, 0), 6 / length);
                Due.due("meets by " + length, x.meets(), 1);
                Due.due("fed by " + length, x.fed(0, 0), 10);
                Due.due("feeds by " + length, x.feeds(0, 0), 12 / length);
                Due.due("judge by " + length, x.judge(0, 0), 9999);
            } else {
                for (int what = 0; what <= 4; what++) {
                    int whatOf = what;
                    Due.state("hem by " + length, () -> x.hem(0, whatOf));
                }
                Due.due("meets by " + length, x.meets(), -3);
                Due.state("fed by " + length, () -> x.fed(0, 0));
                Due.due("feeds by " + length, x.feeds(0, 0), -3);
                Due.due("judge by " + length, x.judge(0, 0), -3);
            }
        }
    }

    /** "the number r of ROUNDS (1 at least) for which the length less r times LENGTH is nearest to 0 (then the fewer)" */
    private static void roundsNearestTo0() {
        int[][] discs = {{1}, {2}, {3}, {1, 3}, {12, -5}, {12}, {9, 4}, {12, 12, 12, 12}, {12, 12, 12, 12, 12, 12, 12, 12, 12},
            {12, 12, 12, 12, 12, 12, 12, 12, 12, 12, 12, 12, 12, 12, 12, 12, 12, 12, 12, 12, 12, 12, 12, 12}};
        for (int[] disc : discs) {
            int by = Arrays.stream(disc).sum();
            for (int length = 1; length <= 999; length += 8) {
                CamStitch x = room(disc);
                for (int i = 0; i < 8 && length + i <= 999; i++) {
                    x.side(length + i);
                    roundsOf(x, i, length + i, by, disc.length);
                }
            }
        }
    }

    private static void roundsOf(CamStitch x, int i, int length, int by, int n) {
        int best = 1;
        for (int r = 2; r <= 1000; r++) {
            if (Math.abs(length - r * by) < Math.abs(length - best * by)) {
                best = r;
            }
        }
        String side = "side " + length + " by " + by;
        Due.due(side + ": rounds", x.hem(i, 0), best);
        Due.due(side + ": rest", x.hem(i, 1), length - best * by);
        Due.due(side + ": stitches", x.hem(i, 3), best * n);
    }

    /** "the greatest whole number not above REST (j + 1) / (r N), less that for j" */
    private static void restSpread() {
        int[][] discs = {{5}, {12, -5}, {3, 4, 6}, {1, 0, 0, 0, 0, 0, 0, 11}, {12, 12, 12, 12, 12}};
        int[] lengths = {1, 2, 7, 9, 11, 17, 19, 30, 53, 67, 89, 90, 91};
        for (int[] disc : discs) {
            for (int length : lengths) {
                CamStitch x = room(disc);
                x.side(length);
                int rest = x.hem(0, 1);
                int n = x.hem(0, 3);
                int sum = 0;
                for (int j = 0; j < n; j++) {
                    int more = (int) (Math.floor((double) rest * (j + 1) / n) - Math.floor((double) rest * j / n));
                    Due.due("fed " + j + " of " + length, x.fed(0, j), disc[j % disc.length] + more);
                    sum += x.fed(0, j);
                }
                Due.due("all of " + length, sum, length);
            }
        }
    }

    /** "It FITS if each FEED is -12 .. 12 then." */
    private static void fitsWithin12() {
        int[][] discs = {{11, 0, 0}, {0, 11, 0}, {0, 0, 11}};
        for (int place = 0; place < 3; place++) {
            // REST 3 over 3 STITCHES is 1 each, REST -3 is -1 each.
            CamStitch x = room(discs[place]);
            x.side(11 + 3);
            Due.due("12 at " + place, x.fed(0, place), 12);
            Due.due("12 at " + place + " fits", x.hem(0, 2), 1);
            x.file(place, 0, 12);
            x.side(12 + 3);
            Due.due("13 at " + place, x.fed(1, place), 13);
            Due.due("13 at " + place + " doesn't fit", x.hem(1, 2), 0);
            int next = (place + 1) % 3;
            x.file(place, 0, -11);
            x.file(next, 0, 12);
            x.file((place + 2) % 3, 0, 9);
            x.side(10 - 3);
            Due.due("-12 at " + place, x.fed(2, place), -12);
            Due.due("-12 at " + place + " fits", x.hem(2, 2), 1);
            x.file(place, 0, -12);
            x.side(9 - 3);
            Due.due("-13 at " + place, x.fed(3, place), -13);
            Due.due("-13 at " + place + " doesn't fit", x.hem(3, 2), 0);
        }
        // In a later ROUND alone: REST 1 over 4 STITCHES comes to the last one.
        CamStitch x = room(6, 12);
        x.side(37);
        Due.due("the last is 13", x.fed(0, 3), 13);
        Due.due("the same stitch of the first round is 12", x.fed(0, 1), 12);
        Due.due("13 in the last round", x.hem(0, 2), 0);
        Due.due("it doesn't meet", x.meets(), 0);
    }

    /** hem() 4: "the greatest change of a FEED either way" */
    private static void changeEitherWay() {
        int[][] discs = {{5}, {12, -5}, {3, 4, 6}, {12, 12, 12, 12, 12}, {7, 7, 7, 7, 7, 7, 7, 7}};
        for (int[] disc : discs) {
            for (int length = 1; length <= 90; length++) {
                CamStitch x = room(disc);
                x.side(length);
                int n = x.hem(0, 3);
                int greatest = 0;
                for (int j = 0; j < n && j < 150; j++) {
                    greatest = Math.max(greatest, Math.abs(x.fed(0, j) - disc[j % disc.length]));
                }
                Due.due("change of " + length, x.hem(0, 4), greatest);
            }
        }
    }

    /** "A hem MEETS if all its SIDES FIT." */
    private static void meetsIfAllFit() {
        for (int bad = -1; bad < 8; bad++) {
            CamStitch x = room(12, 11);
            for (int i = 0; i < 8; i++) {
                x.side(i == bad ? 25 : 24);
            }
            Due.due("side " + bad + " doesn't fit", x.meets(), bad < 0 ? 1 : 0);
        }
        CamStitch x = room(12);
        x.side(13);
        Due.due("none fits", x.meets(), 0);
        x.sideless();
        Due.due("none there", x.meets(), -3);
        x.side(12);
        Due.due("one fits", x.meets(), 1);
        x.begin();
        Due.due("none behind begin()", x.meets(), -3);
        x.side(12);
        Due.due("no disc", x.meets(), -3);
    }

    private static void fedFirstAndLast() {
        CamStitch x = room(5, 1);
        x.side(18);
        Due.due("stitches", x.hem(0, 3), 6);
        Due.state("stitch -1", () -> x.fed(0, -1));
        Due.due("the first", x.fed(0, 0), 5);
        Due.due("the last", x.fed(0, 5), 1);
        Due.state("stitch 6", () -> x.fed(0, 6));
        Due.state("far beyond", () -> x.fed(0, Integer.MAX_VALUE));
        Due.state("far before", () -> x.fed(0, Integer.MIN_VALUE));
        Due.state("no side 1", () -> x.fed(1, 0));
        Due.state("no side -1", () -> x.fed(-1, 0));
        x.side(2);
        Due.due("the last of another", x.fed(1, 1), -1);
        Due.state("one more of another", () -> x.fed(1, 2));
    }

    /** "FULL: more than 400" */
    private static void feedsUpTo400() {
        for (int r = 398; r <= 402; r++) {
            CamStitch x = room(2);
            x.side(2 * r);
            Due.due("feeds of " + r, x.feeds(0, 0), r <= 400 ? r : -2);
            Due.due("the tape", x.clear(0), r <= 400 ? 2 : 0);
        }
        CamStitch x = room(1, 1, 1, 1, 1, 1, 1, 1);
        x.side(400);
        x.side(408);
        x.side(404);
        x.side(405);
        Due.due("50 rounds of 8", x.feeds(0, 0), 400);
        Due.due("51 rounds of 8", x.feeds(0, 1), -2);
        Due.due("404: 50 rounds, the fewer", x.feeds(0, 2), 400);
        Due.due("405: 51 rounds", x.feeds(0, 3), -2);
        Due.due("the last of 404", x.at(0, 399), 2);
        Due.due("the first of 404", x.at(0, 0), 1);
    }

    /** "TAPE d gets a row of shorts", whatever it held; each of TAPES 0 to 5. */
    private static void feedsTakeATape() {
        CamStitch x = room(12, 11, -4);
        x.side(20);
        x.side(27);
        x.keep(1);
        x.tape(2, 1, 9);
        x.tape(3, 2, 2);
        x.tape(4, 4, 400);
        for (int d = -1; d <= 6; d++) {
            boolean is = d >= 0 && d <= 5;
            Due.due("feeds(" + d + ", 0)", x.feeds(d, 0), is ? 3 : -1);
            if (is) {
                int onTape = d;
                // REST 1 of 3 comes to the last one.
                Due.due("0 on " + d, x.at(d, 0), 12);
                Due.due("1 on " + d, x.at(d, 1), 11);
                Due.due("2 on " + d, x.at(d, 2), -3);
                Due.state("3 on " + d, () -> x.at(onTape, 3));
                // REST 8 of 3: 2, 3, 3. What doesn't FIT is fed, too.
                Due.due("feeds(" + d + ", 1)", x.feeds(d, 1), 3);
                Due.due("14 on " + d, x.at(d, 0), 14);
                Due.due("14 on " + d, x.at(d, 1), 14);
                Due.due("-1 on " + d, x.at(d, 2), -1);
                Due.due("judged", x.judge(d, 1), 0);
                Due.due("shorts on " + d, x.clear(d), 2);
            }
        }
        Due.due("feeds(0, 2)", x.feeds(0, 2), -3);
        Due.due("feeds(0, -1)", x.feeds(0, -1), -3);
        Due.due("feeds(6, 2)", x.feeds(6, 2), -1);
        Due.due("nothing is held", x.clear(0), 0);
    }

    private static void judges(CamStitch x, int i, int want, long... feeds) {
        Due.row(x, 0, 2, feeds);
        Due.due("judge " + Arrays.toString(feeds), x.judge(0, i), want);
    }

    /** "each -12 .. 12" */
    private static void judgedEachWithin12() {
        // REST 5 over 2: 2 and 3, so 3 is the greatest change.
        CamStitch x = room(11, 10);
        x.side(26);
        Due.due("change", x.hem(0, 4), 3);
        judges(x, 0, 2, 12, 12);
        judges(x, 0, 0, 13, 12);
        judges(x, 0, 0, 14, 12);
        judges(x, 0, 1, 12, 13);
        CamStitch y = room(-11, -10, 12, 12, 12);
        y.side(7);
        Due.due("change of -8", y.hem(0, 4), 2);
        judges(y, 0, 9999, -12, -12, 11, 10, 10);
        judges(y, 0, 0, -13, -11, 11, 10, 10);
        judges(y, 0, 1, -11, -13, 11, 10, 10);
        judges(y, 0, 0, Short.MIN_VALUE, -13, 0, 0, 0);
        judges(y, 0, 2, -12, -12, Short.MAX_VALUE, 10, 10);
    }

    /** "each at most the greatest change (hem() 4) away from the DISC's" */
    private static void judgedByTheChange() {
        // REST 4 over 2: 2 each.
        CamStitch x = room(7, 3);
        x.side(14);
        Due.due("change", x.hem(0, 4), 2);
        judges(x, 0, 9999, 9, 5);
        judges(x, 0, 2, 5, 1);
        judges(x, 0, 0, 10, 4);
        judges(x, 0, 0, 4, 5);
        judges(x, 0, 1, 9, 6);
        judges(x, 0, 1, 9, 0);
        // REST 0: none away at all, in any ROUND.
        x.side(20);
        Due.due("change", x.hem(1, 4), 0);
        judges(x, 1, 9999, 7, 3, 7, 3);
        judges(x, 1, 0, 8, 2, 7, 3);
        judges(x, 1, 2, 7, 3, 6, 4);
        judges(x, 1, 3, 7, 3, 7, 2);
        // REST -4 over 2 ROUNDS: -1 each at most, and the other way as well.
        x.side(16);
        Due.due("change", x.hem(2, 4), 1);
        judges(x, 2, 9999, 6, 2, 6, 2);
        judges(x, 2, 4, 8, 2, 6, 2);
        judges(x, 2, 0, 5, 3, 6, 2);
        judges(x, 2, 0, 9, 2, 6, 2);
        judges(x, 2, 3, 6, 2, 6, 5);
    }

    /** "they add up to the SIDE's length"; "its STITCHES if only the sum isn't" */
    private static void judgedByTheSum() {
        CamStitch x = room(7, 3);
        x.side(14);
        judges(x, 0, 9999, 9, 5);
        judges(x, 0, 2, 8, 5);
        judges(x, 0, 2, 9, 4);
        CamStitch y = room(6, 4);
        y.side(13);
        // 1 and 2 of 3: 7 and 6 are fed; 2 at most each.
        judges(y, 0, 9999, 7, 6);
        judges(y, 0, 9999, 8, 5);
        judges(y, 0, 2, 8, 6);
        judges(y, 0, 2, 7, 5);
        CamStitch one = room(9);
        one.side(9);
        judges(one, 0, 9999, 9);
        judges(one, 0, 0, 8);
    }

    /** "else the first place at which one isn't so" */
    private static void judgedTheFirstPlace() {
        for (int first = 0; first < 6; first++) {
            CamStitch x = room(4, 5);
            x.side(27);
            long[] feeds = {4, 5, 4, 5, 4, 5};
            for (int j = first; j < 6; j++) {
                feeds[j] = 13;
            }
            judges(x, 0, first, feeds);
            feeds[5] = 5;
            judges(x, 0, first == 5 ? 9999 : first, feeds);
        }
    }

    /** "PLACE: it has too few (and all that it has are so)" */
    private static void judgedTooFew() {
        CamStitch x = room(4, 5);
        x.side(18);
        judges(x, 0, -13);
        judges(x, 0, -13, 4);
        judges(x, 0, -13, 4, 5, 4);
        judges(x, 0, 9999, 4, 5, 4, 5);
        judges(x, 0, 0, 9);
        judges(x, 0, 2, 4, 5, 9);
        judges(x, 0, 0, 5, 5, 4);
        Due.due("refusals", x.count(5), 3);
    }

    /** "(What it has beyond isn't looked at.)" */
    private static void judgedBeyond() {
        CamStitch x = room(4, 5);
        x.side(9);
        judges(x, 0, 9999, 4, 5);
        judges(x, 0, 9999, 4, 5, 99);
        judges(x, 0, 9999, 4, 5, -99, 4, 5, 4);
        judges(x, 0, 1, 4, 4, 1);
        x.tape(0, 2, 400);
        x.put(0, 0, 4);
        x.put(0, 1, 5);
        Due.due("398 beyond", x.judge(0, 0), 9999);
    }

    /** More STITCHES than a row can hold: none has them all. */
    private static void judgedMoreThanARowHolds() {
        CamStitch x = room(1);
        x.side(400);
        x.side(401);
        x.side(999);
        Due.due("feeds of 400", x.feeds(0, 0), 400);
        Due.due("judge of 400", x.judge(0, 0), 9999);
        Due.due("judge of 401", x.judge(0, 1), -13);
        Due.due("judge of 999", x.judge(0, 2), -13);
        x.put(0, 399, 2);
        Due.due("judge of 401, the last isn't so", x.judge(0, 1), 399);
        x.put(0, 0, 0);
        Due.due("judge of 999, the first isn't so", x.judge(0, 2), 0);
    }

    /** "for the DISC at work": another DISC, another HEM. */
    private static void hemForTheDiscAtWork() {
        CamStitch x = room(5);
        x.side(12);
        x.lay(0);
        Due.due("rounds", x.hem(0, 0), 2);
        Due.work(x, 0, 4, 0, 2);
        Due.due("rounds of another", x.hem(0, 0), 2);
        Due.due("stitches of another", x.hem(0, 3), 4);
        x.file(0, 0, 12);
        Due.due("rounds, filed", x.hem(0, 0), 1);
        Due.due("rest, filed", x.hem(0, 1), -2);
        x.take(0);
        Due.due("stitches of the first", x.hem(0, 3), 2);
        Due.due("sides stay", x.count(2), 1);
    }
}
