import java.util.List;

/**
 * VII: what is refused changes nothing, and of several refusals the one named first is answered. Each refusal of each
 * method is called in one of two equal rooms, and then all that can be seen of the two is compared.
 */
public final class RefusalTest {
    private static final int MOST = Integer.MAX_VALUE, LEAST = Integer.MIN_VALUE;
    private static final int NONE = -1, FULL = -2, BARE = -3, UNABLE = -4;
    private static final int NOTHING = -11, CAST = -12, PLACE = -13, SIZE = -14, THROWN = -15;
    private static final String ARGUMENT = "IllegalArgumentException", STATE = "IllegalStateException";

    /** Just beyond a TAPE, and far: some of these are 0 to 5 in their last 8 or 16 bits. */
    private static final int[] NO_TAPES = {-1, 6, -256, 256, 65536, -65536 + 5, LEAST, MOST, 1 << 31 | 1, 1 << 30};

    private interface Made {
        long on(CamStitch x);
    }

    public static void main(String[] args) {
        patterns();
        discs();
        shelves();
        turns();
        sides();
        fedSides();
        hemsOnTapes();
        judges();
        bench();
        jobs();
        seams();
        rims();
        namesBeyond();
        trials();
        statesLeft();
        hunts();
        tapes();
        tapesOfDiscs();
        places();
        copies();
        copiesBeyond();
        counts();
        Due.end("RefusalTest");
    }

    private static void no(Room room, String call, int due, Made made) {
        check(room, call, "" + due, due <= NOTHING && due >= THROWN ? 1 : 0, made);
    }

    private static void thrown(Room room, String call, String due, Made made) {
        check(room, call, due, 0, made);
    }

    private static void check(Room room, String call, String due, int hosts, Made made) {
        String told = room + ": " + call;
        CamStitch refused = room.made();
        CamStitch untouched = room.made();
        int before = refused.count(5);
        Due.same(told, Due.answerOf(() -> made.on(refused)), due);
        Due.due(told + ": the host's refusals", refused.count(5), before + hosts);
        differs(told, Room.lookAtWork(refused), Room.lookAtWork(untouched));
        CamStitch again = room.made();
        Due.answerOf(() -> made.on(again));
        differs(told, Room.lookAtRest(again), Room.lookAtRest(room.made()));
    }

    private static void differs(String told, List<String> got, List<String> want) {
        Due.due(told + ": looks", got.size(), want.size());
        for (int i = 0; i < Math.min(got.size(), want.size()); i++) {
            Due.same(told + ": behind it, look " + i, got.get(i), want.get(i));
        }
    }

    // ---- I

    private static void patterns() {
        for (int d : NO_TAPES) {
            no(Room.ORDINARY, "read(" + d + ")", NONE, x -> x.read(d));
        }
        no(Room.BARE, "read(6), nothing held", NONE, x -> x.read(6));
        no(Room.BARE, "read(0)", NOTHING, x -> x.read(0));
        no(Room.ORDINARY, "read(0)", NOTHING, x -> x.read(0));
        for (int d = 2; d <= 5; d++) {
            int other = d;
            no(Room.ORDINARY, "read of sort " + d, CAST, x -> x.read(other));
        }
        no(Room.ORDINARY, "read a fault behind an order 3", -101, x -> x.read(1));
        no(Room.FULL, "read a fault at the end", -100, x -> x.read(0));
        int[] whats = {-1, 2, 256, LEAST, MOST};
        for (int what : whats) {
            thrown(Room.ORDINARY, "point(0, " + what + ")", ARGUMENT, x -> x.point(0, what));
            thrown(Room.ORDINARY, "point(2, " + what + ")", ARGUMENT, x -> x.point(2, what));
            thrown(Room.BARE, "point(0, " + what + ")", ARGUMENT, x -> x.point(0, what));
        }
        int[] points = {-1, 2, 24, 256, LEAST, MOST};
        for (int k : points) {
            thrown(Room.ORDINARY, "point(" + k + ", 0)", STATE, x -> x.point(k, 0));
            thrown(Room.ORDINARY, "point(" + k + ", 1)", STATE, x -> x.point(k, 1));
        }
        thrown(Room.FULL, "point(24, 0)", STATE, x -> x.point(24, 0));
        thrown(Room.BARE, "point(0, 0)", STATE, x -> x.point(0, 0));
        thrown(Room.BARE, "advance()", STATE, x -> x.advance());
    }

    private static void discs() {
        int[] parts = {-1, 0, 13, 256 + 4, 65536 + 4, LEAST, MOST};
        for (int part : parts) {
            no(Room.ORDINARY, "make(" + part + ", 4)", NONE, x -> x.make(part, 4));
            no(Room.ORDINARY, "make(4, " + part + ")", NONE, x -> x.make(4, part));
            no(Room.BARE, "make(" + part + ", 4)", NONE, x -> x.make(part, 4));
            no(Room.BARE, "make(4, " + part + ")", NONE, x -> x.make(4, part));
        }
        no(Room.FULL, "make(0, 1), more than 48", NONE, x -> x.make(0, 1));
        no(Room.BARE, "make(4, 4)", BARE, x -> x.make(4, 4));
        no(Room.FULL, "make(11, 1), 49", FULL, x -> x.make(11, 1));
        int[] whats = {-1, 7, 256, LEAST, MOST};
        for (int what : whats) {
            thrown(Room.ORDINARY, "disc(" + what + ")", ARGUMENT, x -> x.disc(what));
            thrown(Room.BARE, "disc(" + what + ")", ARGUMENT, x -> x.disc(what));
        }
        for (int what = 0; what <= 6; what++) {
            int whatOf = what;
            thrown(Room.BARE, "disc(" + what + ")", STATE, x -> x.disc(whatOf));
        }
        int[] noStitches = {-1, 3, 4, 48, 256, LEAST, MOST};
        for (int j : noStitches) {
            thrown(Room.ORDINARY, "stitch(" + j + ", 0)", STATE, x -> x.stitch(j, 0));
            thrown(Room.ORDINARY, "stitch(" + j + ", 2)", ARGUMENT, x -> x.stitch(j, 2));
            no(Room.ORDINARY, "file(" + j + ", 1, 1)", NONE, x -> x.file(j, 1, 1));
            no(Room.BARE, "file(" + j + ", 1, 1)", NONE, x -> x.file(j, 1, 1));
        }
        thrown(Room.ORDINARY, "stitch(0, -1)", ARGUMENT, x -> x.stitch(0, -1));
        thrown(Room.BARE, "stitch(0, 0)", STATE, x -> x.stitch(0, 0));
        thrown(Room.BARE, "stitch(0, 2)", ARGUMENT, x -> x.stitch(0, 2));
        thrown(Room.FULL, "stitch(48, 1)", STATE, x -> x.stitch(48, 1));
        no(Room.FULL, "file(48, 1, 1)", NONE, x -> x.file(48, 1, 1));
        int[] beyond = {-13, 13, 256, -256, 65536, LEAST, MOST};
        for (int b : beyond) {
            no(Room.ORDINARY, "file(1, " + b + ", 1)", NONE, x -> x.file(1, b, 1));
            no(Room.ORDINARY, "file(1, 1, " + b + ")", NONE, x -> x.file(1, 1, b));
        }
        no(Room.BARE, "file(0, 0, 0)", NONE, x -> x.file(0, 0, 0));
        no(Room.BARE, "makes()", BARE, x -> x.makes());
    }

    private static void shelves() {
        int[] noShelves = {-1, 8, 9, 256, 65536, LEAST, MOST};
        for (int k : noShelves) {
            no(Room.ORDINARY, "lay(" + k + ")", NONE, x -> x.lay(k));
            no(Room.BARE, "lay(" + k + ")", NONE, x -> x.lay(k));
            no(Room.ORDINARY, "take(" + k + ")", NONE, x -> x.take(k));
            no(Room.FULL, "take(" + k + ")", NONE, x -> x.take(k));
        }
        for (int k = 0; k < 8; k++) {
            int shelf = k;
            no(Room.BARE, "lay(" + k + ")", BARE, x -> x.lay(shelf));
            no(Room.BARE, "take(" + k + ")", BARE, x -> x.take(shelf));
            if (k != 0 && k != 6) {
                no(Room.ORDINARY, "take(" + k + ")", BARE, x -> x.take(shelf));
            }
        }
    }

    private static void turns() {
        int[] noStitches = {-1, 3, 4, 48, 256, LEAST, MOST};
        for (int j : noStitches) {
            no(Room.ORDINARY, "turn(" + j + ", 0)", NONE, x -> x.turn(j, 0));
            no(Room.ORDINARY, "turn(" + j + ", 1)", NONE, x -> x.turn(j, 1));
        }
        int[] noMirrors = {-1, 2, 256, LEAST, MOST};
        for (int mirror : noMirrors) {
            no(Room.ORDINARY, "turn(1, " + mirror + ")", NONE, x -> x.turn(1, mirror));
        }
        no(Room.FULL, "turn(48, 0)", NONE, x -> x.turn(48, 0));
        no(Room.BARE, "turn(0, 0)", NONE, x -> x.turn(0, 0));
        no(Room.BARE, "turn(0, 1)", NONE, x -> x.turn(0, 1));
    }

    // ---- II

    private static void sides() {
        int[] noLengths = {-1, 0, 1000, 1001, 65536 + 5, LEAST, MOST};
        for (int length : noLengths) {
            no(Room.ORDINARY, "side(" + length + ")", NONE, x -> x.side(length));
            no(Room.FULL, "side(" + length + ")", NONE, x -> x.side(length));
            no(Room.BARE, "side(" + length + ")", NONE, x -> x.side(length));
        }
        no(Room.FULL, "side(1)", FULL, x -> x.side(1));
        no(Room.FULL, "side(999)", FULL, x -> x.side(999));
        int[] noSides = {-1, 2, 3, 8, 256, LEAST, MOST};
        for (int what = 0; what <= 4; what++) {
            int whatOf = what;
            for (int i : noSides) {
                thrown(Room.ORDINARY, "hem(" + i + ", " + what + ")", STATE, x -> x.hem(i, whatOf));
            }
            thrown(Room.FLAT, "hem(0, " + what + ")", STATE, x -> x.hem(0, whatOf));
            thrown(Room.BARE, "hem(0, " + what + ")", STATE, x -> x.hem(0, whatOf));
            thrown(Room.FULL, "hem(8, " + what + ")", STATE, x -> x.hem(8, whatOf));
        }
        int[] noWhats = {-1, 5, 256, LEAST, MOST};
        for (int what : noWhats) {
            thrown(Room.ORDINARY, "hem(0, " + what + ")", ARGUMENT, x -> x.hem(0, what));
            thrown(Room.ORDINARY, "hem(2, " + what + ")", ARGUMENT, x -> x.hem(2, what));
            thrown(Room.FLAT, "hem(0, " + what + ")", ARGUMENT, x -> x.hem(0, what));
            thrown(Room.BARE, "hem(0, " + what + ")", ARGUMENT, x -> x.hem(0, what));
        }
    }

    private static void fedSides() {
        int[] noSides = {-1, 2, 8, LEAST, MOST};
        for (int i : noSides) {
            thrown(Room.ORDINARY, "fed(" + i + ", 0)", STATE, x -> x.fed(i, 0));
        }
        // The first SIDE has 4 ROUNDS of 3 STITCHES, the second one.
        int[] noStitches = {-1, 12, 13, 256, LEAST, MOST};
        for (int j : noStitches) {
            thrown(Room.ORDINARY, "fed(0, " + j + ")", STATE, x -> x.fed(0, j));
        }
        thrown(Room.ORDINARY, "fed(1, 3)", STATE, x -> x.fed(1, 3));
        thrown(Room.FLAT, "fed(0, 0)", STATE, x -> x.fed(0, 0));
        thrown(Room.BARE, "fed(0, 0)", STATE, x -> x.fed(0, 0));
        thrown(Room.FULL, "fed(8, 0)", STATE, x -> x.fed(8, 0));
        no(Room.BARE, "meets()", BARE, x -> x.meets());
        no(Room.FLAT, "meets()", BARE, x -> x.meets());
    }

    private static void hemsOnTapes() {
        for (int d : NO_TAPES) {
            no(Room.ORDINARY, "feeds(" + d + ", 0)", NONE, x -> x.feeds(d, 0));
            no(Room.BARE, "feeds(" + d + ", 0)", NONE, x -> x.feeds(d, 0));
            no(Room.FULL, "feeds(" + d + ", 0), more than 400", NONE, x -> x.feeds(d, 0));
        }
        int[] noSides = {-1, 2, 8, LEAST, MOST};
        for (int i : noSides) {
            no(Room.ORDINARY, "feeds(1, " + i + ")", BARE, x -> x.feeds(1, i));
        }
        for (int d = 0; d <= 5; d++) {
            int onTape = d;
            no(Room.FLAT, "feeds(" + d + ", 0)", BARE, x -> x.feeds(onTape, 0));
            no(Room.BARE, "feeds(" + d + ", 0)", BARE, x -> x.feeds(onTape, 0));
            no(Room.FULL, "feeds(" + d + ", 7)", FULL, x -> x.feeds(onTape, 7));
            no(Room.FULL, "feeds(" + d + ", 8)", BARE, x -> x.feeds(onTape, 8));
        }
    }

    private static void judges() {
        for (int d : NO_TAPES) {
            no(Room.ORDINARY, "judge(" + d + ", 0)", NONE, x -> x.judge(d, 0));
            no(Room.BARE, "judge(" + d + ", 0)", NONE, x -> x.judge(d, 0));
        }
        int[] noSides = {-1, 2, 8, LEAST, MOST};
        for (int i : noSides) {
            for (int d = 0; d <= 5; d++) {
                int onTape = d;
                no(Room.ORDINARY, "judge(" + d + ", " + i + ")", BARE, x -> x.judge(onTape, i));
            }
        }
        for (int d = 0; d <= 5; d++) {
            int onTape = d;
            no(Room.FLAT, "judge(" + d + ", 0)", BARE, x -> x.judge(onTape, 0));
            no(Room.BARE, "judge(" + d + ", 0)", BARE, x -> x.judge(onTape, 0));
        }
        no(Room.ORDINARY, "judge(0, 0)", NOTHING, x -> x.judge(0, 0));
        no(Room.ORDINARY, "judge(1, 0)", CAST, x -> x.judge(1, 0));
        no(Room.ORDINARY, "judge(3, 0)", CAST, x -> x.judge(3, 0));
        no(Room.ORDINARY, "judge(4, 0)", CAST, x -> x.judge(4, 0));
        no(Room.ORDINARY, "judge(5, 0)", CAST, x -> x.judge(5, 0));
        no(Room.ORDINARY, "judge(2, 0), 3 of 12", PLACE, x -> x.judge(2, 0));
        no(Room.FULL, "judge(4, 0), none at all", PLACE, x -> x.judge(4, 0));
    }

    // ---- III

    private static void bench() {
        int[] noCloths = {-1, 2, 256, LEAST, MOST};
        for (int which : noCloths) {
            no(Room.ORDINARY, "cloth(" + which + ", 9)", NONE, x -> x.cloth(which, 9));
            no(Room.ORDINARY, "tune(" + which + ")", NONE, x -> x.tune(which));
            no(Room.ORDINARY, "thread(" + which + ")", NONE, x -> x.thread(which));
        }
        int[] noThicks = {-1, 61, 256, 65536, LEAST, MOST};
        for (int thick : noThicks) {
            no(Room.ORDINARY, "cloth(0, " + thick + ")", NONE, x -> x.cloth(0, thick));
            no(Room.ORDINARY, "cloth(1, " + thick + ")", NONE, x -> x.cloth(1, thick));
        }
        int[] noTensions = {-1, 0, 100, 256 + 9, 65536 + 9, LEAST, MOST};
        for (int tension : noTensions) {
            no(Room.ORDINARY, "tensions(" + tension + ", 5)", NONE, x -> x.tensions(tension, 5));
            no(Room.ORDINARY, "tensions(5, " + tension + ")", NONE, x -> x.tensions(5, tension));
        }
        no(Room.BARE, "tune(1)", UNABLE, x -> x.tune(1));
        int[] noWinds = {-1, 1000001, LEAST, MOST};
        for (int wind : noWinds) {
            no(Room.ORDINARY, "wind(" + wind + ", 5)", NONE, x -> x.wind(wind, 5));
            no(Room.ORDINARY, "wind(5, " + wind + ")", NONE, x -> x.wind(5, wind));
        }
    }

    private static void jobs() {
        int[][] noSteps = {{-1, 0}, {4, 0}, {4, 1}, {256, 0}, {LEAST, 0}, {MOST, 0}, {0, -1}, {0, 8}, {0, LEAST}, {0, MOST},
            {1, 0}, {1, -1}, {1, 201}, {1, 256 + 1}, {1, LEAST}, {1, MOST}, {2, 0}, {2, -1}, {2, 4}, {2, LEAST}, {2, MOST},
            {3, -1}, {3, 1}, {3, LEAST}, {3, MOST}};
        for (int[] s : noSteps) {
            String call = "step(" + s[0] + ", " + s[1] + ")";
            no(Room.ORDINARY, call, NONE, x -> x.step(s[0], s[1]));
            no(Room.FULL, call, NONE, x -> x.step(s[0], s[1]));
        }
        int[][] steps = {{0, 0}, {0, 7}, {1, 1}, {1, 200}, {2, 1}, {2, 3}, {3, 0}};
        for (int[] s : steps) {
            no(Room.FULL, "step(" + s[0] + ", " + s[1] + ")", FULL, x -> x.step(s[0], s[1]));
        }
    }

    private static void seams() {
        int[] noWhats = {-1, 10, 256, LEAST, MOST};
        for (int what : noWhats) {
            thrown(Room.ORDINARY, "seam(" + what + ")", ARGUMENT, x -> x.seam(what));
            thrown(Room.BARE, "seam(" + what + ")", ARGUMENT, x -> x.seam(what));
        }
        for (int what = 0; what <= 9; what++) {
            int whatOf = what;
            thrown(Room.BARE, "seam(" + what + ")", STATE, x -> x.seam(whatOf));
        }
        int[] noStitches = {-1, 5, 6, 600, LEAST, MOST};
        for (int i : noStitches) {
            thrown(Room.ORDINARY, "sewn(" + i + ", 0)", STATE, x -> x.sewn(i, 0));
            thrown(Room.ORDINARY, "sewn(" + i + ", 1)", STATE, x -> x.sewn(i, 1));
            thrown(Room.ORDINARY, "sewn(" + i + ", 2)", ARGUMENT, x -> x.sewn(i, 2));
            thrown(Room.BARE, "sewn(" + i + ", -1)", ARGUMENT, x -> x.sewn(i, -1));
        }
        int[] noWhatsOfOne = {-1, 2, 256, LEAST, MOST};
        for (int what : noWhatsOfOne) {
            thrown(Room.ORDINARY, "sewn(0, " + what + ")", ARGUMENT, x -> x.sewn(0, what));
        }
        thrown(Room.BARE, "sewn(0, 0)", STATE, x -> x.sewn(0, 0));
        thrown(Room.FULL, "sewn(600, 0)", STATE, x -> x.sewn(600, 0));
    }

    // ---- IV

    private static void rims() {
        for (int d : NO_TAPES) {
            no(Room.ORDINARY, "names(" + d + ", 0)", NONE, x -> x.names(d, 0));
            no(Room.ORDINARY, "name(" + d + ", 0, 0)", NONE, x -> x.name(d, 0, 0));
            no(Room.ORDINARY, "wear(" + d + ")", NONE, x -> x.wear(d));
        }
        int[] noWears = {-1, 7, 256, LEAST, MOST};
        for (int wear : noWears) {
            for (int d = 0; d <= 2; d++) {
                int onTape = d;
                no(Room.ORDINARY, "names(" + d + ", " + wear + ")", NONE, x -> x.names(onTape, wear));
                no(Room.ORDINARY, "name(" + d + ", " + wear + ", 0)", NONE, x -> x.name(onTape, wear, 0));
            }
            no(Room.FULL, "names of 400, wear " + wear, NONE, x -> x.names(0, wear));
        }
        no(Room.ORDINARY, "names(0, 0)", NOTHING, x -> x.names(0, 0));
        no(Room.ORDINARY, "name(0, 0, 0)", NOTHING, x -> x.name(0, 0, 0));
        no(Room.ORDINARY, "wear(0)", NOTHING, x -> x.wear(0));
        for (int d = 2; d <= 5; d++) {
            int other = d;
            no(Room.ORDINARY, "names(" + d + ", 0)", CAST, x -> x.names(other, 0));
            no(Room.ORDINARY, "name(" + d + ", 0, 0)", CAST, x -> x.name(other, 0, 0));
            no(Room.ORDINARY, "wear(" + d + ")", CAST, x -> x.wear(other));
        }
        no(Room.FULL, "names of 400", UNABLE, x -> x.names(0, 6));
        no(Room.FULL, "name of 400", UNABLE, x -> x.name(0, 6, 0));
        no(Room.FULL, "wear of 400", UNABLE, x -> x.wear(0));
    }

    private static void namesBeyond() {
        int[] below = {-1, -2, LEAST};
        for (int i : below) {
            for (int d = -1; d <= 6; d++) {
                int onTape = d;
                no(Room.ORDINARY, "name(" + d + ", 0, " + i + ")", NONE, x -> x.name(onTape, 0, i));
            }
            no(Room.FULL, "name of 400, " + i, NONE, x -> x.name(0, 0, i));
        }
        // 2 shelves of 3 STITCHES, by 2 WAYS and 3 STARTS each, have 12 names at most.
        int[] above = {12, 13, 256, 65536, MOST};
        for (int i : above) {
            no(Room.ORDINARY, "name(1, 6, " + i + ")", NONE, x -> x.name(1, 6, i));
        }
    }

    // ---- V

    private static void trials() {
        int[] noStates = {-1, 2772, 65536, LEAST, MOST};
        for (int state : noStates) {
            no(Room.ORDINARY, "outcome(" + state + ", 0)", NONE, x -> x.outcome(state, 0));
        }
        int[] noTrials = {-1, 325, 65536, LEAST, MOST};
        for (int trial : noTrials) {
            no(Room.ORDINARY, "outcome(0, " + trial + ")", NONE, x -> x.outcome(0, trial));
            no(Room.ORDINARY, "note(" + trial + ", 0)", NONE, x -> x.note(trial, 0));
            no(Room.FULL, "note(" + trial + ", 0)", NONE, x -> x.note(trial, 0));
            no(Room.ORDINARY, "share(2, " + trial + ")", NONE, x -> x.share(2, trial));
        }
        int[] noOutcomes = {-1, 5, 6, 256, LEAST, MOST};
        for (int outcome : noOutcomes) {
            no(Room.ORDINARY, "note(3, " + outcome + ")", NONE, x -> x.note(3, outcome));
            no(Room.FULL, "note(3, " + outcome + ")", NONE, x -> x.note(3, outcome));
        }
        for (int outcome = 0; outcome <= 4; outcome++) {
            int noted = outcome;
            no(Room.FULL, "note(324, " + outcome + ")", FULL, x -> x.note(324, noted));
        }
    }

    private static void statesLeft() {
        int[] noCauses = {-1, 5, 256, LEAST, MOST};
        for (int m : noCauses) {
            no(Room.ORDINARY, "left(" + m + ")", NONE, x -> x.left(m));
            no(Room.ORDINARY, "state(" + m + ", 0)", NONE, x -> x.state(m, 0));
            no(Room.ORDINARY, "best(" + m + ")", NONE, x -> x.best(m));
            no(Room.ORDINARY, "share(" + m + ", 0)", NONE, x -> x.share(m, 0));
            no(Room.ORDINARY, "hunt(0, " + m + ", 0)", NONE, x -> x.hunt(0, m, 0));
        }
        int[] noNumbers = {-1, 2772, 65536, LEAST, MOST};
        for (int m = 0; m <= 4; m++) {
            int causes = m;
            for (int i : noNumbers) {
                no(Room.ORDINARY, "state(" + m + ", " + i + ")", NONE, x -> x.state(causes, i));
            }
        }
        no(Room.ORDINARY, "state(0, 1)", NONE, x -> x.state(0, 1));
        no(Room.BARE, "best(0)", UNABLE, x -> x.best(0));
        no(Room.ORDINARY, "best(0)", UNABLE, x -> x.best(0));
    }

    private static void hunts() {
        int[] noStates = {-1, 2772, 65536, LEAST, MOST};
        for (int state : noStates) {
            no(Room.ORDINARY, "hunt(" + state + ", 1, 0)", NONE, x -> x.hunt(state, 1, 0));
        }
        int[] noWhats = {-1, 4, 256, LEAST, MOST};
        for (int what : noWhats) {
            no(Room.ORDINARY, "hunt(0, 1, " + what + ")", NONE, x -> x.hunt(0, 1, what));
        }
    }

    // ---- VI

    private static void tapes() {
        for (int d : NO_TAPES) {
            no(Room.ORDINARY, "tape(" + d + ", 1, 1)", NONE, x -> x.tape(d, 1, 1));
            no(Room.ORDINARY, "tape(" + d + ", 1, -1)", NONE, x -> x.tape(d, 1, -1));
            no(Room.ORDINARY, "clear(" + d + ")", NONE, x -> x.clear(d));
        }
        int[] noSorts = {-1, 0, 5, 6, 256 + 1, LEAST, MOST};
        int[] noSizes = {-1, -2, -400, LEAST};
        int[] noRows = {401, 402, 65536, MOST};
        for (int d = 0; d <= 5; d++) {
            int onTape = d;
            for (int sort : noSorts) {
                no(Room.ORDINARY, "tape(" + d + ", " + sort + ", 1)", NONE, x -> x.tape(onTape, sort, 1));
                no(Room.ORDINARY, "tape(" + d + ", " + sort + ", -1)", NONE, x -> x.tape(onTape, sort, -1));
            }
            for (int n : noRows) {
                no(Room.ORDINARY, "tape(" + d + ", 2, " + n + ")", NONE, x -> x.tape(onTape, 2, n));
            }
            for (int n : noSizes) {
                no(Room.ORDINARY, "tape(" + d + ", 2, " + n + ")", SIZE, x -> x.tape(onTape, 2, n));
            }
        }
    }

    private static void tapesOfDiscs() {
        for (int d : NO_TAPES) {
            no(Room.ORDINARY, "keep(" + d + ")", NONE, x -> x.keep(d));
            no(Room.BARE, "keep(" + d + ")", NONE, x -> x.keep(d));
            no(Room.ORDINARY, "back(" + d + ")", NONE, x -> x.back(d));
            no(Room.ORDINARY, "toss(" + d + ")", NONE, x -> x.toss(d));
        }
        for (int d = 0; d <= 5; d++) {
            int onTape = d;
            no(Room.BARE, "keep(" + d + ")", BARE, x -> x.keep(onTape));
            no(Room.BARE, "back(" + d + ")", NOTHING, x -> x.back(onTape));
            no(Room.BARE, "toss(" + d + ")", NOTHING, x -> x.toss(onTape));
        }
        no(Room.ORDINARY, "back(0)", NOTHING, x -> x.back(0));
        no(Room.ORDINARY, "toss(0)", NOTHING, x -> x.toss(0));
        for (int d = 1; d <= 4; d++) {
            int onTape = d;
            no(Room.ORDINARY, "back(" + d + ")", CAST, x -> x.back(onTape));
            no(Room.ORDINARY, "toss(" + d + ")", CAST, x -> x.toss(onTape));
            no(Room.FULL, "back of 400, or of none", CAST, x -> x.back(onTape));
        }
        // A DISC that isn't STEEP has no failure: only the count of refusals tells that it was asked for.
        CamStitch x = new CamStitch();
        Due.work(x, 3, 4, 3, -4);
        x.keep(0);
        Due.due("toss a disc steep by 0", x.toss(0), THROWN);
        Due.due("toss it again", x.toss(0), THROWN);
        Due.due("refusals", x.count(5), 2);
        Due.due("it stays on its tape", x.back(0), 2);
        Due.stitches(x, "as it was", 3, 4, 3, -4);
    }

    private static void places() {
        for (int d : NO_TAPES) {
            no(Room.ORDINARY, "put(" + d + ", 0, 1)", NONE, x -> x.put(d, 0, 1));
            no(Room.ORDINARY, "put(" + d + ", -1, 1)", NONE, x -> x.put(d, -1, 1));
            thrown(Room.ORDINARY, "at(" + d + ", 0)", ARGUMENT, x -> x.at(d, 0));
            thrown(Room.ORDINARY, "at(" + d + ", -1)", ARGUMENT, x -> x.at(d, -1));
        }
        int[] noPlaces = {-1, 3, 4, 399, 400, 65536, LEAST, MOST};
        for (int i : noPlaces) {
            no(Room.ORDINARY, "put(0, " + i + ", 1)", NOTHING, x -> x.put(0, i, 1));
            no(Room.ORDINARY, "put(5, " + i + ", 1)", CAST, x -> x.put(5, i, 1));
            thrown(Room.ORDINARY, "at(0, " + i + ")", STATE, x -> x.at(0, i));
            thrown(Room.ORDINARY, "at(5, " + i + ")", STATE, x -> x.at(5, i));
            for (int d = 1; d <= 4; d++) {
                int onTape = d;
                no(Room.ORDINARY, "put(" + d + ", " + i + ", 1)", PLACE, x -> x.put(onTape, i, 1));
                thrown(Room.ORDINARY, "at(" + d + ", " + i + ")", STATE, x -> x.at(onTape, i));
            }
        }
        for (int d = 0; d <= 3; d++) {
            int onTape = d;
            no(Room.FULL, "put(" + d + ", 400, 1)", PLACE, x -> x.put(onTape, 400, 1));
            thrown(Room.FULL, "at(" + d + ", 400)", STATE, x -> x.at(onTape, 400));
        }
        no(Room.FULL, "put(4, 0, 1), an empty row", PLACE, x -> x.put(4, 0, 1));
        thrown(Room.FULL, "at(4, 0), an empty row", STATE, x -> x.at(4, 0));
        no(Room.ORDINARY, "put(0, 0, 1)", NOTHING, x -> x.put(0, 0, 1));
        no(Room.ORDINARY, "put(5, 0, 1)", CAST, x -> x.put(5, 0, 1));
        thrown(Room.ORDINARY, "at(0, 0)", STATE, x -> x.at(0, 0));
        thrown(Room.ORDINARY, "at(5, 0)", STATE, x -> x.at(5, 0));
    }

    private static void copies() {
        for (int d : NO_TAPES) {
            no(Room.ORDINARY, "copy(" + d + ", 0, 1, 0, 1)", NONE, x -> x.copy(d, 0, 1, 0, 1));
            no(Room.ORDINARY, "copy(1, 0, " + d + ", 0, 1)", NONE, x -> x.copy(1, 0, d, 0, 1));
            no(Room.ORDINARY, "copy(" + d + ", -1, 0, 0, 1)", NONE, x -> x.copy(d, -1, 0, 0, 1));
            no(Room.ORDINARY, "copy(0, 0, " + d + ", 0, -1)", NONE, x -> x.copy(0, 0, d, 0, -1));
        }
        for (int d = 0; d <= 5; d++) {
            int other = d;
            no(Room.ORDINARY, "copy(0, 0, " + d + ", 0, -1)", NOTHING, x -> x.copy(0, 0, other, 0, -1));
            no(Room.ORDINARY, "copy(" + d + ", 0, 0, 0, 0)", NOTHING, x -> x.copy(other, 0, 0, 0, 0));
        }
        for (int d = 1; d <= 5; d++) {
            for (int e = 1; e <= 5; e++) {
                int from = d;
                int to = e;
                if (d != e || d == 5) {
                    no(Room.ORDINARY, "copy(" + d + ", 0, " + e + ", 0, 1)", CAST, x -> x.copy(from, 0, to, 0, 1));
                    no(Room.ORDINARY, "copy(" + d + ", -1, " + e + ", 0, -1)", CAST, x -> x.copy(from, -1, to, 0, -1));
                }
            }
        }
    }

    private static void copiesBeyond() {
        // TAPES 1 (3 bytes) and 2 (3 shorts) on themselves; sums of these pass what an int holds.
        int[][] beyond = {{0, 0, -1}, {-1, 0, 1}, {0, -1, 1}, {0, 0, 4}, {1, 0, 3}, {0, 1, 3}, {2, 0, 2}, {0, 2, 2}, {3, 0, 1},
            {0, 3, 1}, {4, 0, 0}, {0, 4, 0}, {-1, 0, 0}, {0, -1, 0}, {MOST, 0, 1}, {0, MOST, 1}, {MOST, 0, MOST},
            {0, MOST, MOST}, {0, 0, MOST}, {1, 1, MOST}, {LEAST, 0, 1}, {0, LEAST, 1}, {0, 0, LEAST}, {MOST, MOST, LEAST},
            {LEAST, LEAST, LEAST}, {LEAST, LEAST, MOST}, {3, 3, LEAST}, {MOST, 0, 2}, {0, MOST, 2}, {2, 2, MOST - 1}};
        for (int[] b : beyond) {
            for (int d = 1; d <= 2; d++) {
                int onTape = d;
                String call = "copy(" + d + ", " + b[0] + ", " + d + ", " + b[1] + ", " + b[2] + ")";
                no(Room.ORDINARY, call, PLACE, x -> x.copy(onTape, b[0], onTape, b[1], b[2]));
            }
        }
        no(Room.FULL, "copy(0, 0, 0, 0, 401)", PLACE, x -> x.copy(0, 0, 0, 0, 401));
        no(Room.FULL, "copy(0, 1, 0, 0, 400)", PLACE, x -> x.copy(0, 1, 0, 0, 400));
        no(Room.FULL, "copy(1, 399, 4, 0, 1), to an empty row", PLACE, x -> x.copy(1, 399, 4, 0, 1));
        no(Room.FULL, "copy(4, 0, 1, 0, 1), from an empty row", PLACE, x -> x.copy(4, 0, 1, 0, 1));
    }

    private static void counts() {
        int[] noWhats = {-1, 6, 256, LEAST, MOST};
        for (int what : noWhats) {
            no(Room.ORDINARY, "count(" + what + ")", NONE, x -> x.count(what));
            no(Room.BARE, "count(" + what + ")", NONE, x -> x.count(what));
        }
    }
}
