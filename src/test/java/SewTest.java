/** Promises 21 to 31: cloths, tensions, threads, jobs and seams. */
public final class SewTest {
    public static void main(String[] args) {
        cloths();
        locks();
        tunes();
        winds();
        steps();
        emptyJobs();
        quarters();
        needles();
        discsOfAJob();
        stops();
        fullSeams();
        returnsAndThreads();
        Due.end("SewTest");
    }

    private static void cloths() {
        CamStitch x = new CamStitch();
        Due.due("which -1", x.cloth(-1, 5), -1);
        Due.due("which 2", x.cloth(2, 5), -1);
        Due.due("thick -1", x.cloth(0, -1), -1);
        Due.due("thick 61", x.cloth(1, 61), -1);
        Due.due("0 at first", x.cloth(0, 60), 4);
        Due.due("1 at first", x.cloth(1, 60), 0);
        Due.due("0", x.cloth(0, 0), 60);
        Due.due("1", x.cloth(1, 7), 60);
        Due.due("0", x.cloth(0, 4), 0);
        Due.due("1", x.cloth(1, 0), 7);
    }

    private static void locks() {
        CamStitch x = new CamStitch();
        Due.due("upper 0", x.tensions(0, 1), -1);
        Due.due("lower 0", x.tensions(1, 0), -1);
        Due.due("upper 100", x.tensions(100, 1), -1);
        Due.due("lower 100", x.tensions(1, 100), -1);
        Due.due("2 of 4 at first", x.lock(), 0);
        Due.due("1 of 99 + 1", x.tensions(99, 1), 0);
        Due.due("above", x.lock(), 2);
        Due.due("99 of 99 + 1", x.tensions(1, 99), 3);
        Due.due("in 0", x.lock(), 0);
        x.cloth(0, 3);
        x.cloth(1, 3);
        Due.due("between", x.tensions(7, 7), 3);
        Due.due("between", x.lock(), 4);
        Due.due("3 of 6 and 4/5", x.tensions(1, 1), 3);
        Due.due("4 of 6", x.tensions(1, 2), 4);
        Due.due("in 1", x.lock(), 1);
        Due.due("2 of 6", x.tensions(2, 1), 2);
        Due.due("in 0", x.lock(), 0);
        x.cloth(0, 0);
        Due.due("1 of 3", x.tensions(2, 1), 1);
        Due.due("in 1, as 0 is none", x.lock(), 1);
        x.cloth(1, 0);
        Due.due("no cloth: above ahead of below", x.lock(), 2);
        x.cloth(0, 60);
        x.cloth(1, 60);
        Due.due("118 of 120", x.tensions(1, 99), 118);
        Due.due("in 1", x.lock(), 1);
        Due.due("refused", x.tensions(100, 100), -1);
        Due.due("as it was", x.lock(), 1);
    }

    private static void tunes() {
        CamStitch x = new CamStitch();
        Due.due("which -1", x.tune(-1), -1);
        Due.due("which 2", x.tune(2), -1);
        Due.due("0", x.tune(0), 101);
        Due.due("1", x.tune(1), -4);
        x.cloth(0, 1);
        Due.due("none below 1", x.tune(0), -4);
        x.cloth(1, 60);
        // 61 LOWER / (UPPER + LOWER) from 2 up: 30 by 1 and 1.
        Due.due("1", x.tune(1), 101);
        Due.due("0 still none", x.tune(0), -4);
        x.cloth(0, 2);
        // 62 LOWER / (UPPER + LOWER) is below 2 from UPPER 31 on.
        Due.due("0", x.tune(0), 3101);
        x.cloth(0, 60);
        x.cloth(1, 2);
        // 62 LOWER / (UPPER + LOWER) is 61: LOWER 60.5 to 1, so 1 and 61 (62 * 61 / 62).
        Due.due("1", x.tune(1), 161);
        x.cloth(0, 6);
        x.cloth(1, 4);
        // Of UPPER and LOWER 3 added, 1 and 2 give 6, the edge; 2 and 1 give 3.
        Due.due("0", x.tune(0), 101);
        // 7 .. 9 of 10: 1 and 2 give 6, 1 and 3 give 7.
        Due.due("1", x.tune(1), 103);
        x.cloth(0, 60);
        x.cloth(1, 60);
        Due.due("0", x.tune(0), 201);
        Due.due("1", x.tune(1), 102);
        Due.due("nothing is changed", x.lock(), 4);
    }

    private static void winds() {
        CamStitch x = new CamStitch();
        Due.due("which -1", x.thread(-1), -1);
        Due.due("which 2", x.thread(2), -1);
        Due.due("spool at first", x.thread(0), 100000);
        Due.due("bobbin at first", x.thread(1), 5000);
        Due.due("spool -1", x.wind(-1, 5), -1);
        Due.due("bobbin -1", x.wind(5, -1), -1);
        Due.due("spool 1000001", x.wind(1000001, 5), -1);
        Due.due("bobbin 1000001", x.wind(5, 1000001), -1);
        Due.due("refused", x.thread(0), 100000);
        Due.due("wind", x.wind(1000000, 0), 0);
        Due.due("spool", x.thread(0), 1000000);
        Due.due("bobbin", x.thread(1), 0);
        Due.due("wind", x.wind(0, 1000000), 0);
        Due.due("spool", x.thread(0), 0);
        Due.due("bobbin", x.thread(1), 1000000);
    }

    private static void steps() {
        CamStitch x = new CamStitch();
        int[][] wrong = {{-1, 0}, {4, 0}, {0, -1}, {0, 8}, {1, 0}, {1, 201}, {2, 0}, {2, 4}, {3, -1}, {3, 1}};
        for (int[] w : wrong) {
            Due.due("step " + w[0] + " " + w[1], x.step(w[0], w[1]), -1);
        }
        int[][] right = {{0, 0}, {0, 7}, {1, 1}, {1, 200}, {2, 1}, {2, 3}, {3, 0}};
        for (int i = 0; i < 20; i++) {
            int[] r = right[i % 7];
            Due.due("step " + r[0] + " " + r[1], x.step(r[0], r[1]), i + 1);
        }
        Due.due("a 21st", x.step(3, 0), -2);
        Due.due("a 21st that is none", x.step(3, 1), -1);
        Due.due("steps", x.count(3), 20);
        Due.due("stepless", x.stepless(), 20);
        Due.due("stepless", x.stepless(), 0);
        Due.due("steps", x.count(3), 0);
        Due.due("step", x.step(3, 0), 1);
    }

    private static void seamIs(CamStitch x, String what, int... due) {
        for (int i = 0; i < due.length; i++) {
            Due.due(what + ": seam " + i, x.seam(i), due[i]);
        }
    }

    private static void places(CamStitch x, String what, int... xy) {
        Due.due(what + ": stitches", x.seam(0), xy.length / 2);
        for (int i = 0; i < xy.length / 2; i++) {
            Due.due(what + ": x " + i, x.sewn(i, 0), xy[2 * i]);
            Due.due(what + ": y " + i, x.sewn(i, 1), xy[2 * i + 1]);
        }
    }

    private static void emptyJobs() {
        CamStitch x = new CamStitch();
        Due.argument("what 10, none sewn", () -> x.seam(10));
        Due.argument("what -1, none sewn", () -> x.seam(-1));
        Due.state("none sewn", () -> x.seam(0));
        Due.argument("sewn what 2", () -> x.sewn(0, 2));
        Due.argument("sewn what -1", () -> x.sewn(0, -1));
        Due.state("none sewn", () -> x.sewn(0, 0));
        Due.due("an empty job", x.sew(), 0);
        seamIs(x, "empty", 0, 0, 0, 0, 0, 0, 0, 0, 0, 0);
        Due.argument("what 10", () -> x.seam(10));
        Due.argument("what -1", () -> x.seam(-1));
        Due.state("no stitch", () -> x.sewn(0, 0));
        x.step(2, 3);
        x.step(3, 0);
        x.step(2, 3);
        x.step(1, 5);
        x.step(2, 1);
        Due.due("no disc", x.sew(), 0);
        seamIs(x, "no disc", 0, 0, 0, 2, 1, 4, 0, 0, 0, 3);
        x.begin();
        Due.state("none sewn since begin", () -> x.seam(0));
        Due.state("none sewn since begin", () -> x.sewn(0, 0));
    }

    private static void quarters() {
        CamStitch x = new CamStitch();
        Due.work(x, 2, 3, 0, 1);
        x.step(1, 1);
        x.step(2, 1);
        x.step(1, 2);
        x.step(2, 2);
        x.step(1, 1);
        x.step(2, 3);
        x.step(1, 2);
        Due.due("sew", x.sew(), 6);
        // dx, dy: 2 3 | turned 1: -2 1, then 2 3 | turned 3: -2 1 | turned 2: 2 3, then -2 1.
        places(x, "turned", 2, 3, 1, 1, -2, 3, -1, 5, -3, 2, -1, 1);
        seamIs(x, "turned", 6, -1, 1, 2, 0, 0, 0, 48, 48, 7);
        x.stepless();
        x.step(3, 0);
        x.step(1, 3);
        x.step(3, 0);
        x.step(1, 1);
        x.step(2, 2);
        x.step(3, 0);
        x.step(2, 3);
        x.step(1, 1);
        Due.due("sew", x.sew(), 5);
        // dy turns its sign while BACK, dx doesn't: 2 -3, -2 -1, 2 -3 | -2 1 | turned 1 and BACK: 2 -3.
        places(x, "back", 2, -3, 0, -4, 2, -7, 0, -6, 3, -4);
        seamIs(x, "back", 5, 3, -4, 1, 1, 0, 0, 21 + 20, 21 + 20, 8);
        // The next seam begins anew: not BACK, QUARTER 0.
        x.stepless();
        x.step(1, 5);
        Due.due("sew", x.sew(), 5);
        places(x, "anew", 2, 3, 0, 4, 2, 7, 0, 8, 2, 11);
        seamIs(x, "anew", 5, 2, 11, 0, 0, 0, 0, 41, 41, 1);
        Due.argument("sewn what 2", () -> x.sewn(0, 2));
        Due.argument("sewn what 2, no stitch", () -> x.sewn(9, 2));
        Due.state("stitch -1", () -> x.sewn(-1, 0));
        Due.state("stitch 5", () -> x.sewn(5, 0));
    }

    private static void needles() {
        CamStitch x = new CamStitch();
        Due.work(x, 2, 1, 5, 1);
        x.step(1, 3);
        Due.due("sew", x.sew(), 3);
        places(x, "from the last swing", -3, 1, 0, 2, -3, 3);
        Due.due("sew again", x.sew(), 3);
        places(x, "from the first stitch on again", -3, 1, 0, 2, -3, 3);
        x.turn(1, 0);
        places(x, "a seam stays as it was sewn", -3, 1, 0, 2, -3, 3);
        Due.due("sew turned", x.sew(), 3);
        places(x, "turned", 3, 1, 0, 2, 3, 3);
    }

    private static void discsOfAJob() {
        CamStitch x = new CamStitch();
        Due.work(x, 2, 1, 5, 1);
        x.lay(0);
        Due.work(x, -4, 2, 1, 2, 3, 2);
        x.lay(1);
        x.step(1, 1);
        x.step(0, 0);
        x.step(1, 3);
        x.step(0, 1);
        x.step(1, 1);
        x.step(0, 1);
        x.step(1, 1);
        x.step(0, 0);
        Due.due("sew", x.sew(), 6);
        // From 3: -4 | 2, 5, 2 | -4 | -4 again, as its first comes next.
        places(x, "discs", -7, 2, -1, 3, 2, 4, -1, 5, -7, 7, -7, 9);
        seamIs(x, "discs", 6, -7, 9, 0, 0, 0, 0, 34 + 24, 34 + 24, 8);
        Due.stitches(x, "the last disc stays at work", 2, 1, 5, 1);
        x.stepless();
        x.step(0, 1);
        x.step(1, 1);
        x.step(0, 7);
        x.step(1, 1);
        Due.due("a bare shelf ends it", x.sew(), 1);
        seamIs(x, "a bare shelf", 1, -9, 2, 0, 0, 4, 0, 11 + 4, 11 + 4, 2);
        Due.stitches(x, "the last disc stays at work", -4, 2, 1, 2, 3, 2);
        // No disc at work at the beginning: the needle is at 0.
        CamStitch y = new CamStitch();
        Due.work(y, 6, 1, 8, 1);
        y.lay(3);
        y.keep(0);
        y.begin();
        y.back(0);
        y.lay(3);
        y.begin();
        y.step(0, 3);
        Due.due("bare after begin", y.sew(), 0);
        Due.due("why", y.seam(5), 4);
        Due.due("still no disc", y.keep(1), -3);
    }

    private static void stops() {
        CamStitch x = new CamStitch();
        Due.work(x, 0, 3, 2, 3);
        x.cloth(0, 5);
        x.cloth(1, 2);
        // LOCK 7 * 30 / 40 = 5: upper 5 + 10, lower 5 + 4 a stitch.
        Due.due("lock", x.tensions(10, 30), 5);
        x.step(1, 2);
        x.step(1, 3);
        x.step(2, 1);
        x.wind(45, 1000);
        Due.due("sew", x.sew(), 3);
        seamIs(x, "the spool", 3, -2, 9, 0, 0, 1, 0, 45, 27, 1);
        Due.due("spool", x.thread(0), 0);
        Due.due("bobbin", x.thread(1), 973);
        x.wind(59, 44);
        Due.due("sew", x.sew(), 3);
        seamIs(x, "the spool by 1", 3, -2, 9, 0, 0, 1, 0, 45, 27, 1);
        Due.due("spool", x.thread(0), 14);
        Due.due("bobbin", x.thread(1), 17);
        x.wind(60, 35);
        Due.due("sew", x.sew(), 3);
        Due.due("the bobbin", x.seam(5), 2);
        Due.due("spool", x.thread(0), 15);
        Due.due("bobbin", x.thread(1), 8);
        x.wind(59, 35);
        Due.due("sew", x.sew(), 3);
        Due.due("both: the spool", x.seam(5), 1);
        x.wind(75, 45);
        Due.due("sew", x.sew(), 5);
        seamIs(x, "just enough", 5, -2, 15, 1, 0, 0, 0, 75, 45, 3);
        Due.due("spool", x.thread(0), 0);
        Due.due("bobbin", x.thread(1), 0);
        Due.due("sew with none", x.sew(), 0);
        seamIs(x, "none", 0, 0, 0, 0, 0, 1, 0, 0, 0, 0);
        // The needle's way counts both ways: 2 across and 3 back.
        x.cloth(0, 0);
        x.cloth(1, 0);
        x.wind(14, 1000);
        x.stepless();
        x.step(3, 0);
        x.step(1, 9);
        Due.due("sew", x.sew(), 2);
        seamIs(x, "no cloth", 2, 0, -6, 0, 1, 1, 0, 10, 10, 1);
    }

    private static void fullSeams() {
        CamStitch x = new CamStitch();
        Due.work(x, 1, 1, 2, 1, 3, 1);
        x.wind(1000000, 1000000);
        x.step(1, 200);
        x.step(1, 200);
        x.step(1, 200);
        Due.due("600", x.sew(), 600);
        seamIs(x, "600", 600, 0, 600, 0, 0, 0, 0, 3800, 3800, 3);
        x.step(2, 1);
        x.step(1, 1);
        x.step(2, 1);
        Due.due("600", x.sew(), 600);
        seamIs(x, "a 601st", 600, 0, 600, 1, 0, 3, 0, 3800, 3800, 4);
        Due.due("the last y", x.sewn(599, 1), 600);
        Due.state("no 601st", () -> x.sewn(600, 0));
        // Full is ahead of the threads' end.
        x.wind(3800, 3800);
        Due.due("600", x.sew(), 600);
        Due.due("full", x.seam(5), 3);
        Due.due("spool", x.thread(0), 0);
        x.wind(3799, 3800);
        Due.due("599", x.sew(), 599);
        Due.due("spool", x.seam(5), 1);
    }

    private static void returnsAndThreads() {
        CamStitch x = new CamStitch();
        Due.work(x, 0, 1);
        x.step(1, 2);
        x.step(3, 0);
        x.step(1, 4);
        x.step(3, 0);
        x.step(1, 1);
        Due.due("sew", x.sew(), 7);
        // y 1, 2, 1, 0, -1, -2, -1: 1 again, the beginning, -1 again.
        seamIs(x, "to and fro", 7, 0, -1, 0, 0, 0, 3, 35, 35, 5);
        // A place counts whichever of the stitches was there: y 1, 2, 3, then 2 and 1.
        CamStitch y = new CamStitch();
        Due.work(y, 0, 1);
        y.step(1, 3);
        y.step(3, 0);
        for (int i = 1; i <= 2; i++) {
            y.step(1, 1);
            Due.due("sew", y.sew(), 3 + i);
            Due.due("returns", y.seam(6), i);
        }
        x.file(0, 0, 0);
        Due.due("sew", x.sew(), 7);
        Due.due("all at the beginning", x.seam(6), 7);
        Due.due("no way", x.seam(7), 28);
        x.cloth(1, 5);
        x.tensions(1, 2);
        x.wind(1000, 2000);
        Due.due("sew", x.sew(), 7);
        // LOCK 9 * 2 / 3 = 6: 12 above, 6 below.
        Due.due("upper", x.seam(7), 84);
        Due.due("lower", x.seam(8), 42);
        Due.due("spool", x.thread(0), 916);
        Due.due("bobbin", x.thread(1), 1958);
        x.begin();
        Due.due("spool as at first", x.thread(0), 100000);
        Due.due("bobbin as at first", x.thread(1), 5000);
        Due.due("thick 0 as at first", x.cloth(0, 0), 4);
        Due.due("thick 1 as at first", x.cloth(1, 0), 0);
    }
}
