import java.util.Arrays;

/** III, SEWING, and promises 21 to 31: each sentence that names a boundary, on both of its sides. */
public final class SewEdgeTest {
    public static void main(String[] args) {
        thicksFrom0To60();
        tensionsFrom1To99();
        lockTheGreatestWholeNumber();
        whereLockLies();
        showsBelowNever();
        tunesAll();
        tuneTheLeast();
        windFrom0To1000000();
        stepsOfEachKind();
        upTo20Steps();
        sewnWithoutADisc();
        sewnWithoutASew();
        nextStitches();
        needleOfTheDisc();
        quarterModulo4();
        backOrNot();
        bareShelves();
        discsOnTheWay();
        upperThreadRunsOut();
        lowerThreadRunsOut();
        bothRunOut();
        noThreadForNoWay();
        mostThreadOfAStitch();
        sixHundred();
        wantedBeyond600();
        earlierPlaces();
        sewnFirstAndLast();
        aSeamBeginsAnew();
        Due.end("SewEdgeTest");
    }

    private static void seamIs(CamStitch x, String what, int... due) {
        for (int i = 0; i < due.length; i++) {
            Due.due(what + ": seam " + i, x.seam(i), due[i]);
        }
    }

    /** "THICK 0 and THICK 1 (0 .. 60; 4 and 0 at first)" */
    private static void thicksFrom0To60() {
        for (int which = 0; which <= 1; which++) {
            CamStitch x = new CamStitch();
            int had = which == 0 ? 4 : 0;
            for (int thick = -2; thick <= 62; thick++) {
                boolean is = thick >= 0 && thick <= 60;
                Due.due("cloth(" + which + ", " + thick + ")", x.cloth(which, thick), is ? had : -1);
                had = is ? thick : had;
            }
            Due.due("the last one", x.cloth(which, 0), 60);
            Due.due("the other", x.cloth(1 - which, 1), which == 0 ? 0 : 4);
            Due.due("no cloth -1", x.cloth(-1, 5), -1);
            Due.due("no cloth 2", x.cloth(2, 5), -1);
            x.begin();
            Due.due("at first", x.cloth(0, 4), 4);
            Due.due("at first", x.cloth(1, 0), 0);
        }
    }

    /** "UPPER, LOWER (1 .. 99; 20 each at first)" */
    private static void tensionsFrom1To99() {
        CamStitch first = new CamStitch();
        first.cloth(0, 60);
        first.cloth(1, 60);
        // 20 each: the middle; 20 and 19, or 19 and 20, would not be.
        Due.due("at first between the two", first.lock(), 4);
        for (int t = -1; t <= 101; t++) {
            CamStitch x = new CamStitch();
            x.cloth(0, 60);
            x.cloth(1, 60);
            boolean is = t >= 1 && t <= 99;
            Due.due("tensions(" + t + ", 7)", x.tensions(t, 7), is ? 120 * 7 / (t + 7) : -1);
            Due.due("it lies", x.lock(), !is || t == 7 ? 4 : t < 7 ? 1 : 0);
            Due.due("tensions(7, " + t + ")", x.tensions(7, t), is ? 120 * t / (t + 7) : -1);
            Due.due("it lies", x.lock(), !is ? 4 : t == 7 ? 4 : t < 7 ? 0 : 1);
            Due.due("tensions(" + t + ", " + t + ")", x.tensions(t, t), is ? 60 : -1);
            x.begin();
            x.cloth(0, 60);
            x.cloth(1, 60);
            Due.due("20 each behind begin()", x.lock(), 4);
        }
    }

    /** "the greatest whole number not above (THICK 0 + THICK 1) LOWER / (UPPER + LOWER)" */
    private static void lockTheGreatestWholeNumber() {
        int[] tensions = {1, 2, 3, 7, 20, 50, 98, 99};
        for (int thick = 0; thick <= 120; thick += 3) {
            CamStitch x = new CamStitch();
            int thick0 = Math.min(thick, 60);
            x.cloth(0, thick0);
            x.cloth(1, thick - thick0);
            for (int upper : tensions) {
                for (int lower : tensions) {
                    int due = (int) Math.floor((double) thick * lower / (upper + lower));
                    Due.due("lock of " + thick + " by " + upper + ", " + lower, x.tensions(upper, lower), due);
                    int lies = due > 0 && due < thick0 ? 0 : due > thick0 && due < thick ? 1 : due == 0 ? 2 : 4;
                    Due.due("where", x.lock(), lies);
                }
            }
        }
        CamStitch x = new CamStitch();
        x.cloth(0, 60);
        x.cloth(1, 40);
        Due.due("100 by 99 and 1", x.tensions(99, 1), 1);
        Due.due("100 by 1 and 99", x.tensions(1, 99), 99);
        x.cloth(1, 39);
        Due.due("99 by 99 and 1", x.tensions(99, 1), 0);
        Due.due("99 by 1 and 99", x.tensions(1, 99), 98);
    }

    /** "in CLOTH 0 if it is above 0 and below THICK 0; in CLOTH 1 if it is above THICK 0 and below both; else it SHOWS" */
    private static void whereLockLies() {
        // Of 10 in all, by UPPER 10 - l and LOWER l, LOCK is l.
        for (int thick0 = 0; thick0 <= 10; thick0++) {
            CamStitch x = new CamStitch();
            x.cloth(0, thick0);
            x.cloth(1, 10 - thick0);
            for (int l = 1; l <= 9; l++) {
                Due.due("lock " + l, x.tensions(10 - l, l), l);
                Due.due("lock " + l + ", thick " + thick0, x.lock(), l < thick0 ? 0 : l > thick0 ? 1 : 4);
            }
            Due.due("lock 0", x.tensions(99, 1), 0);
            Due.due("lock 0 shows above", x.lock(), 2);
            Due.due("lock 9", x.tensions(1, 99), 9);
            Due.due("lock 9 is in one", x.lock(), thick0 < 9 ? 1 : thick0 == 9 ? 4 : 0);
        }
    }

    /** LOWER is below UPPER + LOWER, so LOCK is both THICKS only where both are 0, and that is "above (LOCK 0)". */
    private static void showsBelowNever() {
        CamStitch x = new CamStitch();
        x.cloth(0, 0);
        int[] tensions = {1, 50, 99};
        for (int upper : tensions) {
            for (int lower : tensions) {
                Due.due("lock of nothing", x.tensions(upper, lower), 0);
                Due.due("it shows above", x.lock(), 2);
            }
        }
        x.cloth(1, 1);
        Due.due("lock of 1", x.tensions(1, 99), 0);
        Due.due("it shows above", x.lock(), 2);
        x.cloth(1, 2);
        Due.due("lock of 2", x.tensions(1, 1), 1);
        Due.due("in cloth 1", x.lock(), 1);
        x.cloth(0, 2);
        x.cloth(1, 0);
        Due.due("in cloth 0", x.lock(), 0);
    }

    private static void tunesAll() {
        for (int thick0 = 0; thick0 <= 60; thick0 += thick0 < 6 ? 1 : 9) {
            for (int thick1 = 0; thick1 <= 60; thick1 += thick1 < 6 ? 1 : 9) {
                CamStitch x = new CamStitch();
                x.cloth(0, thick0);
                x.cloth(1, thick1);
                Due.due("tune(0) of " + thick0 + ", " + thick1, x.tune(0), tuned(thick0, thick1, 0));
                Due.due("tune(1) of " + thick0 + ", " + thick1, x.tune(1), tuned(thick0, thick1, 1));
            }
        }
    }

    /** The least UPPER and LOWER added, then the least UPPER, by which LOCK lies in a CLOTH; -4 if there are none. */
    private static int tuned(int thick0, int thick1, int which) {
        int least = which == 0 ? 0 : thick0;
        int most = which == 0 ? thick0 : thick0 + thick1;
        for (int both = 2; both <= 198; both++) {
            for (int upper = 1; upper < both; upper++) {
                int lock = (thick0 + thick1) * (both - upper) / both;
                if (upper <= 99 && both - upper <= 99 && lock > least && lock < most) {
                    return 100 * upper + both - upper;
                }
            }
        }
        return -4;
    }

    /** "UNABLE: there are none. Nothing is changed." */
    private static void tuneTheLeast() {
        CamStitch x = new CamStitch();
        x.tensions(99, 1);
        Due.due("tune(-1)", x.tune(-1), -1);
        Due.due("tune(2)", x.tune(2), -1);
        Due.due("tune(0) of 4", x.tune(0), 101);
        Due.due("no cloth 1", x.tune(1), -4);
        Due.due("the tensions stay", x.lock(), 2);
        x.cloth(0, 1);
        x.cloth(1, 1);
        Due.due("nothing is within 1", x.tune(0), -4);
        Due.due("nothing is within 1", x.tune(1), -4);
        x.cloth(1, 2);
        Due.due("2 of 3, by 2 / 3", x.tune(1), 102);
        x.cloth(0, 2);
        x.cloth(1, 1);
        Due.due("1 of 3, by 1 / 2", x.tune(0), 101);
        Due.due("nothing is within 1", x.tune(1), -4);
        // By UPPER and LOWER 3 added, 1 and 2 are ahead of 2 and 1, where both would do.
        x.cloth(0, 60);
        x.cloth(1, 0);
        Due.due("30 of 60", x.tune(0), 101);
        x.cloth(0, 30);
        x.cloth(1, 30);
        Due.due("40 of 60", x.tune(1), 102);
        Due.due("20 of 60", x.tune(0), 201);
        x.cloth(0, 5);
        x.cloth(1, 5);
        Due.due("6 of 10", x.tune(1), 102);
        Due.due("3 of 10", x.tune(0), 201);
    }

    /** "SPOOL and BOBBIN (0 .. 1000000; 100000 and 5000 at first)" */
    private static void windFrom0To1000000() {
        int[] threads = {-1, 0, 1, 999999, 1000000, 1000001};
        for (int spool : threads) {
            for (int bobbin : threads) {
                CamStitch x = new CamStitch();
                boolean is = spool >= 0 && spool <= 1000000 && bobbin >= 0 && bobbin <= 1000000;
                Due.due("wind(" + spool + ", " + bobbin + ")", x.wind(spool, bobbin), is ? 0 : -1);
                Due.due("spool", x.thread(0), is ? spool : 100000);
                Due.due("bobbin", x.thread(1), is ? bobbin : 5000);
                Due.due("no thread -1", x.thread(-1), -1);
                Due.due("no thread 2", x.thread(2), -1);
                x.begin();
                Due.due("spool behind begin()", x.thread(0), 100000);
                Due.due("bobbin behind begin()", x.thread(1), 5000);
            }
        }
    }

    /** "0 DISC k", "1 SEW n (1 .. 200)", "2 TURN q (1 .. 3)", "3 BACK", and no other kind. */
    private static void stepsOfEachKind() {
        int[] least = {0, 1, 1, 0};
        int[] most = {7, 200, 3, 0};
        for (int kind = -2; kind <= 5; kind++) {
            for (int n = -2; n <= 202; n++) {
                CamStitch x = new CamStitch();
                boolean is = kind >= 0 && kind <= 3 && n >= least[kind] && n <= most[kind];
                Due.due("step(" + kind + ", " + n + ")", x.step(kind, n), is ? 1 : -1);
                Due.due("steps", x.count(3), is ? 1 : 0);
            }
        }
    }

    /** "JOB: up to 20 STEPS" */
    private static void upTo20Steps() {
        CamStitch x = new CamStitch();
        Due.due("stepless of none", x.stepless(), 0);
        for (int i = 1; i <= 20; i++) {
            Due.due("step " + i, x.step(2, 1), i);
        }
        Due.due("a 21st", x.step(2, 1), -2);
        Due.due("a 21st that is none", x.step(2, 4), -1);
        Due.due("steps", x.count(3), 20);
        Due.due("sew", x.sew(), 0);
        // 20 times a QUARTER is none.
        seamIs(x, "20 turns", 0, 0, 0, 0, 0, 0, 0, 0, 0, 20);
        Due.due("stepless", x.stepless(), 20);
        Due.due("steps", x.count(3), 0);
        Due.due("the first again", x.step(2, 3), 1);
        Due.due("sew", x.sew(), 0);
        seamIs(x, "one turn", 0, 0, 0, 3, 0, 0, 0, 0, 0, 1);
        x.begin();
        Due.due("none behind begin()", x.stepless(), 0);
    }

    /** "(or none: a SEW without one ends it)" */
    private static void sewnWithoutADisc() {
        CamStitch x = new CamStitch();
        x.step(3, 0);
        x.step(1, 1);
        x.step(3, 0);
        Due.due("sew", x.sew(), 0);
        seamIs(x, "no disc", 0, 0, 0, 0, 1, 4, 0, 0, 0, 1);
        Due.due("spool", x.thread(0), 100000);
        Due.due("bobbin", x.thread(1), 5000);
        x.wind(0, 0);
        Due.due("sew without threads", x.sew(), 0);
        Due.due("no disc ahead of no thread", x.seam(5), 4);
        Due.work(x, 1, 1);
        x.wind(1000, 1000);
        Due.due("sew with one", x.sew(), 1);
        seamIs(x, "a disc", 1, 0, -1, 0, 0, 0, 0, 5, 5, 3);
    }

    /** A JOB without a SEW, or without STEPS, sews a SEAM without STITCHES. */
    private static void sewnWithoutASew() {
        CamStitch x = new CamStitch();
        for (int what = 0; what <= 9; what++) {
            int whatOf = what;
            Due.state("none sewn: " + what, () -> x.seam(whatOf));
        }
        Due.due("an empty job", x.sew(), 0);
        seamIs(x, "empty", 0, 0, 0, 0, 0, 0, 0, 0, 0, 0);
        Due.argument("seam(-1)", () -> x.seam(-1));
        Due.argument("seam(10)", () -> x.seam(10));
        Due.state("no stitch", () -> x.sewn(0, 0));
        x.begin();
        for (int what = 0; what <= 9; what++) {
            int whatOf = what;
            Due.state("none sewn since begin(): " + what, () -> x.seam(whatOf));
        }
        Due.argument("seam(10) behind begin()", () -> x.seam(10));
    }

    /** "that DISC's next STITCH its first", and from the last one to the first again. */
    private static void nextStitches() {
        CamStitch x = new CamStitch();
        Due.work(x, 0, 1, 0, 10, 0, -5);
        x.step(1, 2);
        x.step(2, 2);
        x.step(1, 1);
        x.step(2, 2);
        x.step(1, 4);
        Due.due("sew", x.sew(), 7);
        int[] ys = new int[7];
        for (int i = 0; i < 7; i++) {
            ys[i] = x.sewn(i, 1);
        }
        // 1, 10 | turned by 2: -5 | 1, 10, -5, 1.
        Due.same("ys", Arrays.toString(ys), "[1, 11, 16, 17, 27, 22, 23]");
        CamStitch one = new CamStitch();
        Due.work(one, 5, 2);
        one.step(1, 200);
        Due.due("one stitch 200 times", one.sew(), 200);
        seamIs(one, "one", 200, 0, 400, 0, 0, 0, 0, 1200, 1200, 1);
    }

    /** "At its beginning the needle is at the NEEDLE of the DISC at work": at its last STITCH's SWING. */
    private static void needleOfTheDisc() {
        CamStitch x = new CamStitch();
        Due.work(x, -12, 0, 12, 0);
        x.step(1, 1);
        Due.due("sew", x.sew(), 1);
        Due.due("24 across", x.sewn(0, 0), -24);
        x.turn(1, 0);
        Due.due("sew", x.sew(), 1);
        Due.due("24 the other way", x.sewn(0, 0), 24);
        x.file(1, 5, 0);
        Due.due("sew", x.sew(), 1);
        Due.due("7 from the last", x.sewn(0, 0), 7);
    }

    /** "the QUARTER grows by q (modulo 4)"; the place grows by (dx, dy) turned by it. */
    private static void quarterModulo4() {
        // (2, 3) turned by 0, 1, 2 and 3.
        int[][] places = {{2, 3}, {-3, 2}, {-2, -3}, {3, -2}};
        for (int first = 1; first <= 3; first++) {
            for (int second = 1; second <= 3; second++) {
                CamStitch x = new CamStitch();
                Due.work(x, 2, 3, 0, 0);
                x.step(2, first);
                x.step(2, second);
                x.step(1, 1);
                Due.due("sew", x.sew(), 1);
                int quarter = (first + second) % 4;
                String what = "turned by " + first + " and " + second;
                seamIs(x, what, 1, places[quarter][0], places[quarter][1], quarter, 0, 0, 0, 9, 9, 3);
                Due.due(what + ": x", x.sewn(0, 0), places[quarter][0]);
                Due.due(what + ": y", x.sewn(0, 1), places[quarter][1]);
            }
        }
    }

    /** "it becomes BACK, or not": dy is -f while BACK, dx is as it was. */
    private static void backOrNot() {
        for (int times = 0; times <= 4; times++) {
            CamStitch x = new CamStitch();
            Due.work(x, 2, 3, 0, 0);
            for (int i = 0; i < times; i++) {
                x.step(3, 0);
            }
            x.step(1, 1);
            Due.due("sew", x.sew(), 1);
            int back = times % 2;
            seamIs(x, "back " + times, 1, 2, back == 1 ? -3 : 3, 0, back, 0, 0, 9, 9, times + 1);
        }
        // Each QUARTER while BACK: (2, -3) turned.
        int[][] places = {{2, -3}, {3, 2}, {-2, 3}, {-3, -2}};
        for (int q = 1; q <= 3; q++) {
            CamStitch x = new CamStitch();
            Due.work(x, 2, 3, 0, 0);
            x.step(3, 0);
            x.step(2, q);
            x.step(1, 1);
            Due.due("sew", x.sew(), 1);
            seamIs(x, "back, turned " + q, 1, places[q][0], places[q][1], q, 1, 0, 0, 9, 9, 3);
        }
    }

    /** "A STEP DISC of a bare shelf ends it, too." */
    private static void bareShelves() {
        for (int bare = 0; bare <= 7; bare++) {
            CamStitch x = new CamStitch();
            Due.work(x, 0, 1);
            for (int k = 0; k <= 7; k++) {
                if (k != bare) {
                    x.lay(k);
                }
            }
            Due.work(x, 4, 2, 0, 2);
            x.step(1, 1);
            x.step(0, bare);
            x.step(1, 1);
            Due.due("bare " + bare, x.sew(), 1);
            seamIs(x, "bare " + bare, 1, 4, 2, 0, 0, 4, 0, 10, 10, 1);
            Due.due("the disc at work stays", x.disc(0), 2);
            x.lay(bare);
            Due.due("not bare", x.sew(), 2);
            seamIs(x, "not bare", 2, 4, 4, 0, 0, 0, 0, 10 + 6, 10 + 6, 3);
        }
    }

    /** "its next STITCH is its first; the needle stays where it is (its first dx is from there)" */
    private static void discsOnTheWay() {
        CamStitch x = new CamStitch();
        Due.work(x, 5, 1, 6, 1, 7, 1);
        x.lay(0);
        Due.work(x, -3, 4);
        x.lay(7);
        x.step(0, 0);
        x.step(1, 2);
        x.step(0, 7);
        x.step(1, 1);
        x.step(0, 0);
        x.step(1, 1);
        x.step(0, 0);
        Due.due("sew", x.sew(), 4);
        int[] xs = new int[4];
        for (int i = 0; i < 4; i++) {
            xs[i] = x.sewn(i, 0);
        }
        // From -3: 5, 6 | -3 | 5, each place the SWING less where the needle was at first.
        Due.same("xs", Arrays.toString(xs), "[8, 9, 0, 8]");
        Due.due("the last disc stays at work", x.disc(0), 3);
        // The same JOB from there begins at the SWING 7.
        Due.due("sew", x.sew(), 4);
        Due.due("from 7", x.sewn(0, 0), -2);
    }

    /** "a STITCH for which one hasn't enough isn't sewn: the seam STOPS there" */
    private static void upperThreadRunsOut() {
        // LOCK 3: 6 above, 10 below besides the way, which is 5: 11 and 15 a STITCH.
        for (int spool = 30; spool <= 36; spool++) {
            CamStitch x = new CamStitch();
            Due.work(x, 2, 3, 0, 3);
            x.cloth(0, 4);
            x.cloth(1, 4);
            Due.due("lock", x.tensions(5, 3), 3);
            x.wind(spool, 1000);
            x.step(2, 1);
            x.step(1, 3);
            x.step(2, 1);
            int sewn = spool < 33 ? 2 : 3;
            Due.due("sew with " + spool, x.sew(), sewn);
            Due.due("why", x.seam(5), spool < 33 ? 1 : 0);
            Due.due("quarter", x.seam(3), spool < 33 ? 1 : 2);
            Due.due("upper", x.seam(7), 11 * sewn);
            Due.due("lower", x.seam(8), 15 * sewn);
            Due.due("steps", x.seam(9), spool < 33 ? 1 : 3);
            Due.due("spool", x.thread(0), spool - 11 * sewn);
            Due.due("bobbin", x.thread(1), 1000 - 15 * sewn);
        }
    }

    private static void lowerThreadRunsOut() {
        for (int bobbin = 42; bobbin <= 48; bobbin++) {
            CamStitch x = new CamStitch();
            Due.work(x, 2, 3, 0, 3);
            x.cloth(0, 4);
            x.cloth(1, 4);
            Due.due("lock", x.tensions(5, 3), 3);
            x.wind(1000, bobbin);
            x.step(1, 1);
            x.step(3, 0);
            x.step(1, 2);
            int sewn = bobbin < 45 ? 2 : 3;
            Due.due("sew with " + bobbin, x.sew(), sewn);
            seamIs(x, "sew with " + bobbin, sewn, sewn == 2 ? 0 : 2, sewn == 2 ? 0 : -3, 0, 1, bobbin < 45 ? 2 : 0, 1,
                11 * sewn, 15 * sewn, bobbin < 45 ? 2 : 3);
            Due.due("spool", x.thread(0), 1000 - 11 * sewn);
            Due.due("bobbin", x.thread(1), bobbin - 15 * sewn);
        }
    }

    /** "1 SPOOL, 2 BOBBIN (if both: 1)" */
    private static void bothRunOut() {
        for (int spool = 8; spool <= 10; spool++) {
            for (int bobbin = 8; bobbin <= 10; bobbin++) {
                CamStitch x = new CamStitch();
                Due.work(x, 0, 5);
                x.wind(spool, bobbin);
                x.step(1, 1);
                boolean is = spool >= 9 && bobbin >= 9;
                Due.due("sew with " + spool + ", " + bobbin, x.sew(), is ? 1 : 0);
                Due.due("why", x.seam(5), spool < 9 ? 1 : bobbin < 9 ? 2 : 0);
                Due.due("spool", x.thread(0), is ? spool - 9 : spool);
                Due.due("bobbin", x.thread(1), is ? bobbin - 9 : bobbin);
            }
        }
        CamStitch none = new CamStitch();
        Due.work(none, 0, 5);
        none.wind(0, 0);
        none.step(1, 200);
        Due.due("sew with none", none.sew(), 0);
        Due.due("why", none.seam(5), 1);
        none.wind(1000, 0);
        Due.due("sew without a bobbin", none.sew(), 0);
        Due.due("why", none.seam(5), 2);
    }

    /** A STITCH that moves nothing takes 2 LOCK, and none where nothing is thick. */
    private static void noThreadForNoWay() {
        CamStitch x = new CamStitch();
        Due.work(x, 7, 0);
        x.cloth(0, 0);
        x.wind(0, 0);
        x.step(1, 5);
        Due.due("sew without a way, cloth or thread", x.sew(), 5);
        seamIs(x, "nothing", 5, 0, 0, 0, 0, 0, 5, 0, 0, 1);
        x.cloth(0, 1);
        x.wind(0, 10);
        Due.due("LOCK 0 of 1: lower thread alone", x.sew(), 5);
        seamIs(x, "lower alone", 5, 0, 0, 0, 0, 0, 5, 0, 10, 1);
        x.wind(0, 9);
        Due.due("one short", x.sew(), 4);
        Due.due("why", x.seam(5), 2);
        Due.due("one is left", x.thread(1), 1);
    }

    private static void mostThreadOfAStitch() {
        CamStitch x = new CamStitch();
        Due.work(x, -12, -12, 12, -12);
        x.cloth(0, 60);
        x.cloth(1, 60);
        Due.due("lock", x.tensions(1, 99), 118);
        // 24 and 12, and twice 118, or twice 2.
        x.wind(272, 40);
        x.step(1, 1);
        Due.due("just enough", x.sew(), 1);
        seamIs(x, "the most", 1, -24, -12, 0, 0, 0, 0, 272, 40, 1);
        Due.due("spool", x.thread(0), 0);
        Due.due("bobbin", x.thread(1), 0);
        x.wind(271, 40);
        Due.due("one short above", x.sew(), 0);
        Due.due("why", x.seam(5), 1);
        x.wind(272, 39);
        Due.due("one short below", x.sew(), 0);
        Due.due("why", x.seam(5), 2);
        Due.due("lock", x.tensions(99, 1), 1);
        x.wind(38, 274);
        Due.due("the other way just enough", x.sew(), 1);
        x.wind(37, 274);
        Due.due("one short above", x.sew(), 0);
        x.wind(38, 273);
        Due.due("one short below", x.sew(), 0);
    }

    private static CamStitch longJob(int... sews) {
        CamStitch x = new CamStitch();
        Due.work(x, 0, 1);
        x.cloth(0, 0);
        x.wind(1000000, 1000000);
        for (int n : sews) {
            x.step(1, n);
        }
        return x;
    }

    /** "SEAM: up to 600 STITCHES"; "or is full (when a 601st STITCH is wanted)" */
    private static void sixHundred() {
        CamStitch less = longJob(200, 200, 199);
        Due.due("599", less.sew(), 599);
        seamIs(less, "599", 599, 0, 599, 0, 0, 0, 0, 599, 599, 3);
        CamStitch just = longJob(200, 200, 200);
        Due.due("600", just.sew(), 600);
        seamIs(just, "600", 600, 0, 600, 0, 0, 0, 0, 600, 600, 3);
        // STEPS that want no STITCH are ended behind the 600th.
        just.step(3, 0);
        just.step(2, 3);
        Due.due("600 and on", just.sew(), 600);
        seamIs(just, "600 and on", 600, 0, 600, 3, 1, 0, 0, 600, 600, 5);
        Due.due("the last", just.sewn(599, 1), 600);
        Due.state("no 601st", () -> just.sewn(600, 1));
    }

    private static void wantedBeyond600() {
        CamStitch more = longJob(200, 200, 199, 2);
        Due.due("601 are wanted", more.sew(), 600);
        seamIs(more, "601", 600, 0, 600, 0, 0, 3, 0, 600, 600, 3);
        Due.due("the last", more.sewn(599, 1), 600);
        Due.state("no 601st", () -> more.sewn(600, 0));
        Due.due("spool", more.thread(0), 1000000 - 600);
        CamStitch later = longJob(200, 200, 200);
        later.step(3, 0);
        later.step(1, 1);
        later.step(3, 0);
        Due.due("a 601st in a later step", later.sew(), 600);
        seamIs(later, "a later step", 600, 0, 600, 0, 1, 3, 0, 600, 600, 4);
        int[] all = new int[20];
        Arrays.fill(all, 200);
        CamStitch most = longJob(all);
        Due.due("4000 are wanted", most.sew(), 600);
        seamIs(most, "4000", 600, 0, 600, 0, 0, 3, 0, 600, 600, 3);
        // Behind a full one the next begins empty.
        most.stepless();
        most.step(1, 1);
        Due.due("one", most.sew(), 1);
        Due.state("the others are gone", () -> most.sewn(1, 0));
    }

    /** "how many of its STITCHES end where an earlier one (or the beginning 0, 0) does" */
    private static void earlierPlaces() {
        // Round a square: 4 STITCHES, the last one back at the beginning.
        CamStitch x = new CamStitch();
        Due.work(x, 0, 5);
        for (int i = 0; i < 4; i++) {
            x.step(1, 1);
            x.step(2, 1);
        }
        Due.due("sew", x.sew(), 4);
        seamIs(x, "a square", 4, 0, 0, 0, 0, 0, 1, 36, 36, 8);
        x.step(1, 1);
        Due.due("sew", x.sew(), 5);
        Due.due("and on: where the first ended", x.seam(6), 2);
        x.step(1, 1);
        Due.due("sew", x.sew(), 6);
        Due.due("beyond it: a new place", x.seam(6), 2);
        // Places that share x 0 or y 0 with the beginning, each way, are new ones.
        int[][] axes = {{5, 0}, {-5, 0}, {0, 5}, {0, -5}};
        for (int[] a : axes) {
            CamStitch z = new CamStitch();
            Due.work(z, a[0], a[1], 0, 0);
            z.step(1, 1);
            Due.due("sew", z.sew(), 1);
            Due.due("x", z.sewn(0, 0), a[0]);
            Due.due("y", z.sewn(0, 1), a[1]);
            Due.due("a new place on an axis", z.seam(6), 0);
            z.file(0, 0, 0);
            Due.due("sew", z.sew(), 1);
            Due.due("the beginning again", z.seam(6), 1);
        }
        // The same x or y alone is another place: 0 5, 0 10, then across.
        CamStitch y = new CamStitch();
        Due.work(y, 0, 5);
        y.step(1, 2);
        y.step(2, 1);
        y.step(1, 1);
        y.step(2, 1);
        y.step(1, 2);
        Due.due("sew", y.sew(), 5);
        seamIs(y, "across and down", 5, -5, 0, 2, 0, 0, 0, 45, 45, 5);
    }

    private static void sewnFirstAndLast() {
        CamStitch x = new CamStitch();
        Due.work(x, 1, 2, 4, 3);
        x.step(1, 2);
        Due.due("sew", x.sew(), 2);
        int[] seen = {x.sewn(0, 0), x.sewn(0, 1), x.sewn(1, 0), x.sewn(1, 1)};
        Due.same("sewn", Arrays.toString(seen), "[-3, 2, 0, 5]");
        int[] beyond = {-1, 2, 3, 600, Integer.MIN_VALUE, Integer.MAX_VALUE};
        for (int i : beyond) {
            Due.state("sewn(" + i + ", 0)", () -> x.sewn(i, 0));
            Due.argument("sewn(" + i + ", -1)", () -> x.sewn(i, -1));
            Due.argument("sewn(" + i + ", 2)", () -> x.sewn(i, 2));
        }
        Due.argument("sewn(0, -1)", () -> x.sewn(0, -1));
        Due.argument("sewn(0, 2)", () -> x.sewn(0, 2));
        x.begin();
        Due.state("none behind begin()", () -> x.sewn(0, 0));
    }

    /** "from an empty SEAM": QUARTER 0, not BACK, the place 0, 0, no thread in it; SPOOL and BOBBIN go on. */
    private static void aSeamBeginsAnew() {
        CamStitch x = new CamStitch();
        Due.work(x, 1, 2, 4, 3);
        x.wind(100, 90);
        x.step(1, 1);
        x.step(2, 3);
        x.step(3, 0);
        for (int times = 1; times <= 3; times++) {
            Due.due("sew", x.sew(), 1);
            seamIs(x, "each time", 1, -3, 2, 3, 1, 0, 0, 9, 9, 3);
            Due.due("spool", x.thread(0), 100 - 9 * times);
            Due.due("bobbin", x.thread(1), 90 - 9 * times);
        }
        x.stepless();
        Due.due("the seam stays behind stepless()", x.seam(0), 1);
        Due.due("an empty job", x.sew(), 0);
        seamIs(x, "empty", 0, 0, 0, 0, 0, 0, 0, 0, 0, 0);
        Due.state("no stitch", () -> x.sewn(0, 0));
    }
}
