import java.util.ArrayList;
import java.util.List;

/** Rooms that tests begin in, and a look at all that can be seen of one, to tell whether anything has changed. */
enum Room {
    /** Nothing was done in it. */
    BARE {
        @Override
        CamStitch made() {
            return new CamStitch();
        }
    },

    /** A bit of each: 2 POINTS, 3 STITCHES, 2 shelves, 2 SIDES, 5 STEPS, a SEAM, 2 NOTES, TAPES 1 to 5 of sorts 1 to 5. */
    ORDINARY {
        @Override
        CamStitch made() {
            CamStitch x = new CamStitch();
            Due.due("read", Due.read(x, 1, 0, 0, 1, 4, 2, 6, 6, 0), 2);
            Due.due("make", x.make(4, 2), 3);
            x.lay(0);
            x.file(1, 3, 1);
            x.lay(6);
            x.side(20);
            x.side(7);
            sharedParts(x);
            x.keep(5);
            Due.row(x, 1, 1, 3, 4, -128);
            Due.row(x, 2, 2, 2, 1, 2);
            Due.row(x, 3, 3, 70000, 2);
            Due.row(x, 4, 4, 1L << 40, 3);
            return x;
        }
    },

    /** As ordinary, but for the LENGTH of the DISC at work, which is 0. */
    FLAT {
        @Override
        CamStitch made() {
            CamStitch x = ORDINARY.made();
            x.file(0, 4, -3);
            Due.due("flat", x.disc(1), 0);
            return x;
        }
    },

    /** As much as there can be: 24 POINTS, 48 STITCHES, 8 shelves, 8 SIDES, 20 STEPS, 600 sewn, 24 NOTES, rows of 400. */
    FULL {
        @Override
        CamStitch made() {
            CamStitch x = new CamStitch();
            Due.due("read", Due.read(x, 2, -12, 0, 4, 8, 4, 3, 1, 0, 0, 2, 1, 2, 5, 5, 6, 46, 0), 24);
            Due.due("make", x.make(12, 1), 48);
            for (int k = 0; k < 8; k++) {
                x.file(k, k, 1);
                x.lay(k);
            }
            for (int i = 0; i < 8; i++) {
                x.side(992 + i);
            }
            x.step(1, 200);
            x.step(1, 200);
            x.step(1, 200);
            for (int i = 3; i < 20; i++) {
                x.step(i % 2 == 0 ? 1 : 2, i % 2 == 0 ? 1 : 3);
            }
            x.wind(1000000, 1000000);
            Due.due("sew", x.sew(), 600);
            for (int i = 0; i < 24; i++) {
                x.note(i % 2 * 195, 0);
            }
            x.keep(5);
            for (int d = 0; d < 4; d++) {
                x.tape(d, d + 1, 400);
                x.put(d, 399, 3);
            }
            x.tape(4, 2, 0);
            return x;
        }
    };

    abstract CamStitch made();

    private static void sharedParts(CamStitch x) {
        x.step(1, 2);
        x.step(0, 6);
        x.step(2, 1);
        x.step(1, 3);
        x.step(3, 0);
        x.cloth(0, 5);
        x.cloth(1, 3);
        x.tensions(10, 30);
        x.wind(2000, 3000);
        Due.due("sew", x.sew(), 5);
        x.note(0, 0);
        x.note(195, 0);
    }

    /** All that can be seen of the PATTERN, the DISC, the HEM and the SEAM; the room is not to be used after it. */
    static List<String> lookAtWork(CamStitch x) {
        List<String> seen = new ArrayList<>();
        for (int k = 0; k <= x.count(0); k++) {
            int point = k;
            tell(seen, "x", () -> x.point(point, 0));
            tell(seen, "y", () -> x.point(point, 1));
        }
        tell(seen, "advance", () -> x.advance());
        tell(seen, "makes", () -> x.makes());
        lookAtDisc(seen, x, 48);
        for (int i = 0; i <= x.count(2); i++) {
            int side = i;
            for (int what = 0; what <= 4; what++) {
                int whatOf = what;
                tell(seen, "hem", () -> x.hem(side, whatOf));
            }
            tell(seen, "fed", () -> x.fed(side, 1));
        }
        tell(seen, "meets", () -> x.meets());
        lookAtSeam(seen, x);
        return seen;
    }

    private static void lookAtSeam(List<String> seen, CamStitch x) {
        for (int what = 0; what <= 9; what++) {
            int whatOf = what;
            tell(seen, "seam", () -> x.seam(whatOf));
        }
        int[] some = {0, 1, 2, 4, 599};
        for (int i : some) {
            tell(seen, "sewn x", () -> x.sewn(i, 0));
            tell(seen, "sewn y", () -> x.sewn(i, 1));
        }
        tell(seen, "spool", () -> x.thread(0));
        tell(seen, "bobbin", () -> x.thread(1));
    }

    private static void lookAtDisc(List<String> seen, CamStitch x, int most) {
        for (int what = 0; what <= 6; what++) {
            int whatOf = what;
            tell(seen, "disc", () -> x.disc(whatOf));
        }
        for (int j = 0; j < most; j++) {
            int stitch = j;
            tell(seen, "swing", () -> x.stitch(stitch, 0));
            tell(seen, "feed", () -> x.stitch(stitch, 1));
        }
    }

    /** All that can be seen of all else; the room is not to be used after it. */
    static List<String> lookAtRest(CamStitch x) {
        List<String> seen = new ArrayList<>();
        for (int what = 0; what <= 4; what++) {
            int whatOf = what;
            tell(seen, "count", () -> x.count(whatOf));
        }
        tell(seen, "lock", () -> x.lock());
        tell(seen, "tune", () -> x.tune(0));
        for (int m = 0; m <= 4; m++) {
            int causes = m;
            tell(seen, "left", () -> x.left(causes));
        }
        tell(seen, "state", () -> x.state(4, 9));
        tell(seen, "notes", () -> x.noteless());
        int[] places = {0, 1, 2, 399};
        for (int d = 0; d < 6; d++) {
            int onTape = d;
            for (int i : places) {
                tell(seen, "at", () -> x.at(onTape, i));
            }
            tell(seen, "toss", () -> x.toss(onTape));
            tell(seen, "put", () -> x.put(onTape, 400, 0));
            tell(seen, "held", () -> x.clear(onTape));
        }
        lookAtJob(seen, x);
        lookAtShelves(seen, x);
        return seen;
    }

    /** The TENSIONS are seen by the threads that a JOB takes, and the JOB by its SEAM. */
    private static void lookAtJob(List<String> seen, CamStitch x) {
        tell(seen, "thick 0", () -> x.cloth(0, 60));
        tell(seen, "thick 1", () -> x.cloth(1, 60));
        x.wind(1000000, 1000000);
        tell(seen, "sew", () -> x.sew());
        lookAtSeam(seen, x);
        lookAtDisc(seen, x, 3);
        tell(seen, "steps", () -> x.stepless());
        tell(seen, "sides", () -> x.sideless());
    }

    private static void lookAtShelves(List<String> seen, CamStitch x) {
        for (int k = 0; k < 8; k++) {
            int shelf = k;
            tell(seen, "take", () -> x.take(shelf));
            if (x.count(1) > 0) {
                tell(seen, "length", () -> x.disc(1));
                int[] some = {0, 1, 2, 7, 47};
                for (int j : some) {
                    tell(seen, "swing", () -> x.stitch(j, 0));
                    tell(seen, "feed", () -> x.stitch(j, 1));
                }
            }
        }
    }

    private static void tell(List<String> seen, String call, Due.Call made) {
        seen.add(call + " " + Due.answerOf(made));
    }
}
