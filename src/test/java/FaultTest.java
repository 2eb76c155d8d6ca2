/** Promises 35 to 42: faults, found by the best next trial. */
public final class FaultTest {
    public static void main(String[] args) {
        outcomes();
        notes();
        left();
        leftByNotes();
        shares();
        bests();
        hunts();
        Due.end("FaultTest");
    }

    private static int state(int timing, int bent, int worn, int pull) {
        return ((timing + 4) * 7 + bent + 3) * 44 + worn * 11 + pull + 5;
    }

    private static int trial(int speed, int cloth, int swing) {
        return ((speed - 1) * 5 + cloth - 1) * 13 + swing + 6;
    }

    private static void outcomes() {
        CamStitch x = new CamStitch();
        Due.due("state -1", x.outcome(-1, 0), -1);
        Due.due("state 2772", x.outcome(2772, 0), -1);
        Due.due("trial -1", x.outcome(0, -1), -1);
        Due.due("trial 325", x.outcome(0, 325), -1);
        Due.due("good", x.outcome(state(0, 0, 0, 0), trial(5, 5, 6)), 0);
        // Skipped above 9 - WORN - SPEED.
        Due.due("8 of 8", x.outcome(state(4, 0, 0, 0), trial(1, 1, 0)), 0);
        Due.due("8 of 7", x.outcome(state(4, 0, 1, 0), trial(1, 1, 0)), 1);
        Due.due("8 of 7", x.outcome(state(-4, 0, 0, 0), trial(2, 1, 0)), 1);
        Due.due("0 of 1", x.outcome(state(0, 0, 3, 0), trial(5, 1, 0)), 0);
        Due.due("2 of 1", x.outcome(state(1, 0, 3, 0), trial(5, 1, 0)), 1);
        Due.due("8 - 18", x.outcome(state(4, 3, 0, 0), trial(1, 1, -6)), 1);
        Due.due("8 - 12", x.outcome(state(4, 2, 0, 0), trial(1, 1, -6)), 0);
        Due.due("8 + 1", x.outcome(state(4, 1, 0, 0), trial(1, 1, 1)), 1);
        Due.due("skipped ahead of loops", x.outcome(state(4, 3, 3, 5), trial(5, 1, 6)), 1);
        // Looped above 6 CLOTH, or below.
        int[] loops = {1, 2, 2, 3, 4};
        for (int cloth = 1; cloth <= 5; cloth++) {
            for (int pull = -5; pull <= 5; pull++) {
                int due = pull >= loops[cloth - 1] ? 3 : pull <= -loops[cloth - 1] ? 2 : 0;
                Due.due("pull " + pull + " on " + cloth, x.outcome(state(0, 0, 0, pull), trial(1, cloth, 0)), due);
            }
        }
        Due.due("30 isn't above 30", x.outcome(state(0, 0, 0, 3), trial(1, 5, 0)), 0);
        // Broken: BENT 3 either way, SPEED 4 on, SWING 4 either way.
        Due.due("broken", x.outcome(state(-4, 3, 0, 0), trial(4, 1, 4)), 4);
        Due.due("broken", x.outcome(state(4, -3, 0, 0), trial(5, 1, 4)), 4);
        Due.due("broken", x.outcome(state(4, 3, 1, 0), trial(4, 1, -4)), 4);
        Due.due("speed 3", x.outcome(state(4, 3, 0, 0), trial(3, 1, -4)), 0);
        Due.due("swing 3", x.outcome(state(-4, 3, 0, 0), trial(4, 1, 3)), 0);
        Due.due("bent 2", x.outcome(state(-4, 2, 0, 0), trial(4, 1, 4)), 0);
        Due.due("looped above ahead of broken", x.outcome(state(-4, 3, 0, 5), trial(4, 1, 4)), 3);
        Due.due("looped below ahead of broken", x.outcome(state(-4, 3, 0, -5), trial(4, 1, 4)), 2);
    }

    private static void notes() {
        CamStitch x = new CamStitch();
        Due.due("trial -1", x.note(-1, 0), -1);
        Due.due("trial 325", x.note(325, 0), -1);
        Due.due("outcome -1", x.note(0, -1), -1);
        Due.due("outcome 5", x.note(0, 5), -1);
        Due.due("noteless", x.noteless(), 0);
        for (int i = 1; i <= 24; i++) {
            Due.due("note", x.note(324 * (i % 2), i % 5), i);
        }
        Due.due("a 25th", x.note(0, 0), -2);
        Due.due("a 25th that is none", x.note(325, 0), -1);
        Due.due("notes", x.count(4), 24);
        Due.due("noteless", x.noteless(), 24);
        Due.due("notes", x.count(4), 0);
    }

    private static void left() {
        CamStitch x = new CamStitch();
        Due.due("m -1", x.left(-1), -1);
        Due.due("m 5", x.left(5), -1);
        Due.due("m -1", x.state(-1, 0), -1);
        Due.due("m 5", x.state(5, 0), -1);
        Due.due("none", x.left(0), 1);
        // 8 timings, 6 bents, 3 worn, 10 pulls.
        Due.due("one", x.left(1), 28);
        Due.due("two", x.left(2), 28 + 48 + 24 + 80 + 18 + 60 + 30);
        Due.due("three", x.left(3), 2772 - 8 * 6 * 3 * 10);
        Due.due("four", x.left(4), 2772);
        Due.due("the first of four", x.state(4, 0), 0);
        Due.due("the last of four", x.state(4, 2771), 2771);
        Due.due("no more", x.state(4, 2772), -1);
        Due.due("none before", x.state(4, -1), -1);
        Due.due("none", x.state(0, 0), state(0, 0, 0, 0));
        Due.due("no more", x.state(0, 1), -1);
        Due.due("the first of one", x.state(1, 0), state(-4, 0, 0, 0));
        Due.due("bent of one", x.state(1, 4), state(0, -3, 0, 0));
        Due.due("pull of one", x.state(1, 7), state(0, 0, 0, -5));
        Due.due("none of one", x.state(1, 12), state(0, 0, 0, 0));
        Due.due("worn of one", x.state(1, 18), state(0, 0, 1, 0));
        Due.due("the last of one", x.state(1, 27), state(4, 0, 0, 0));
        Due.due("the first of two", x.state(2, 0), state(-4, -3, 0, 0));
        Due.due("the first of three", x.state(3, 0), state(-4, -3, 0, -5));
    }

    private static void leftByNotes() {
        CamStitch x = new CamStitch();
        x.note(trial(1, 1, 0), 3);
        Due.due("pull 1 on", x.left(1), 5);
        Due.due("the first", x.state(1, 0), state(0, 0, 0, 1));
        Due.due("the last", x.state(1, 4), state(0, 0, 0, 5));
        Due.due("none", x.left(0), 0);
        Due.due("none", x.state(0, 0), -1);
        x.note(trial(1, 5, 0), 0);
        Due.due("pull 1 to 3", x.left(1), 3);
        x.note(trial(1, 4, 0), 3);
        Due.due("pull 3", x.left(1), 1);
        Due.due("pull 3", x.state(1, 0), state(0, 0, 0, 3));
        Due.due("one is left", x.best(1), -4);
        x.note(trial(1, 4, 0), 3);
        Due.due("noted again", x.left(1), 1);
        x.note(trial(1, 4, 0), 0);
        Due.due("noted otherwise", x.left(4), 0);
        Due.due("none is left", x.state(4, 0), -1);
        Due.due("none is left", x.best(4), -4);
        Due.due("none is left", x.share(4, 0), 0);
        x.noteless();
        Due.due("all again", x.left(4), 2772);
        x.note(trial(5, 5, 6), 4);
        // Bent 3: |2 TIMING + 18| at most 4 - WORN never; so BROKEN needs less swing.
        Due.due("none breaks", x.left(4), 0);
        x.noteless();
        x.note(trial(4, 1, 4), 4);
        // |2 TIMING + 12| at most 5 - WORN: TIMING -4 (4, WORN 0 or 1), either way; PULL 0.
        Due.due("broken", x.left(4), 4);
        Due.due("broken by two", x.left(2), 2);
        Due.due("the first", x.state(2, 0), state(-4, 3, 0, 0));
        Due.due("the last", x.state(2, 1), state(4, -3, 0, 0));
        Due.due("the third of four", x.state(4, 2), state(4, -3, 0, 0));
        x.noteless();
        x.note(trial(5, 1, 0), 1);
        // |2 TIMING| above 4 - WORN: 4, 6, 6, 8 timings (WORN 0 .. 3), any bent, any pull.
        Due.due("skipped", x.left(4), (4 + 6 + 6 + 8) * 77);
        Due.due("skipped by one", x.left(1), 4);
    }

    private static void shares() {
        CamStitch x = new CamStitch();
        Due.due("m -1", x.share(-1, 0), -1);
        Due.due("m 5", x.share(5, 0), -1);
        Due.due("trial -1", x.share(0, -1), -1);
        Due.due("trial 325", x.share(0, 325), -1);
        Due.due("one state", x.share(0, 324), 1);
        // PULL 1 on, PULL -1 on, and all the rest: good.
        Due.due("5, 5 and 18", x.share(1, trial(1, 1, 0)), 18);
        Due.due("2, 2 and 24", x.share(1, trial(1, 5, 0)), 24);
        // |2 TIMING| above 4 skips 4 timings, |6 BENT| all 6 bents: 10, 5, 5 and 8.
        Due.due("10, 5, 5 and 8", x.share(1, trial(5, 1, 6)), 10);
        x.note(trial(1, 1, 0), 3);
        Due.due("of 5", x.share(1, trial(1, 1, 0)), 5);
        Due.due("3 and 2", x.share(1, trial(1, 4, 0)), 3);
        x.noteless();
        x.note(trial(1, 1, 0), 2);
        Due.due("3 and 2 below", x.share(1, trial(1, 4, 0)), 3);
        Due.due("of 5 below", x.share(1, trial(5, 1, 0)), 5);
        x.noteless();
        x.note(trial(4, 1, 4), 4);
        Due.due("4 broken", x.share(4, trial(4, 1, 4)), 4);
        Due.due("2 broken, 2 skipped", x.share(4, trial(5, 1, 4)), 2);
        Due.due("one broken", x.share(0, trial(4, 1, 4)), 0);
    }

    private static int bestByShares(CamStitch x, int m) {
        int best = -4;
        int least = x.left(m);
        for (int t = 0; t < 325; t++) {
            int share = x.share(m, t);
            if (share < least) {
                least = share;
                best = t;
            }
        }
        return best;
    }

    private static void bests() {
        CamStitch x = new CamStitch();
        Due.due("m -1", x.best(-1), -1);
        Due.due("m 5", x.best(5), -1);
        Due.due("one is left", x.best(0), -4);
        Due.due("one", x.best(1), 195);
        Due.due("by its shares", x.best(1), bestByShares(x, 1));
        for (int m = 2; m <= 4; m++) {
            CamStitch y = new CamStitch();
            Due.due("best for " + m, y.best(m), bestByShares(y, m));
            y.note(trial(5, 1, 0), 1);
            y.note(trial(1, 1, 2), 0);
            y.note(trial(2, 3, 3), 3);
        }
        CamStitch z = new CamStitch();
        z.note(trial(5, 1, 0), 1);
        z.note(trial(2, 3, 3), 3);
        Due.due("with notes", z.best(4), bestByShares(z, 4));
        // TIMING -2 .. 2, WORN, or PULL -1 .. 1: PULL alone can be told, on CLOTH 1.
        CamStitch u = new CamStitch();
        u.note(trial(5, 2, 6), 0);
        Due.due("ten are left", u.left(1), 10);
        Due.due("the first trial of all", u.best(1), 0);
        Due.due("parts 1, 1 and 8", u.share(1, 0), 8);
        // PULL 4 or 5, and no TRIAL parts them.
        CamStitch v = new CamStitch();
        v.note(trial(1, 5, 0), 3);
        Due.due("two are left", v.left(1), 2);
        Due.due("none parts them", v.best(1), -4);
    }

    private static void hunts() {
        CamStitch x = new CamStitch();
        Due.due("state -1", x.hunt(-1, 0, 0), -1);
        Due.due("state 2772", x.hunt(2772, 0, 0), -1);
        Due.due("m -1", x.hunt(0, -1, 0), -1);
        Due.due("m 5", x.hunt(0, 5, 0), -1);
        Due.due("what -1", x.hunt(0, 0, -1), -1);
        Due.due("no trial", x.hunt(5, 0, 0), 0);
        Due.due("no trial: one is left", x.hunt(5, 0, 1), 1);
        Due.due("no trial: not this one", x.hunt(5, 0, 2), 0);
        Due.due("no trial: no last", x.hunt(5, 0, 3), -2);
        Due.due("the one", x.hunt(state(0, 0, 0, 0), 0, 2), 1);
        Due.due("another PULL than the one", x.hunt(state(0, 0, 0, 5), 0, 2), 0);
        x.note(7, 1);
        x.note(9, 2);
        int[][] hunted = {{0, 4}, {5, 2}, {1391, 1}, {2771, 3}, {1369, 4}, {700, 1}, {state(0, 0, 1, 0), 1},
            {state(1, 0, 0, 0), 1}, {state(2, 1, 0, 0), 2}, {state(-3, 0, 2, 0), 2}};
        for (int[] h : hunted) {
            hunted(x, h[0], h[1]);
        }
        Due.due("notes stay", x.count(4), 2);
        Due.due("what 3", x.hunt(1391, 1, 3), 195);
        int[] noWhats = {-1, 4, 9, Integer.MIN_VALUE, Integer.MAX_VALUE};
        for (int what : noWhats) {
            Due.due("what " + what, x.hunt(1391, 1, what), -1);
            Due.due("what " + what + ", no trial", x.hunt(0, 0, what), -1);
        }
    }

    /** A hunt made by hand, on another object. */
    private static void hunted(CamStitch x, int state, int m) {
        CamStitch y = new CamStitch();
        int made = 0;
        int last = -2;
        while (y.best(m) >= 0 && made < 20) {
            last = y.best(m);
            y.note(last, y.outcome(state, last));
            made++;
        }
        int among = 0;
        for (int i = 0; i < y.left(m); i++) {
            among += y.state(m, i) == state ? 1 : 0;
        }
        String hunt = "hunt " + state + " " + m;
        Due.due(hunt + ": made", x.hunt(state, m, 0), made);
        Due.due(hunt + ": left", x.hunt(state, m, 1), y.left(m));
        Due.due(hunt + ": among", x.hunt(state, m, 2), among);
        Due.due(hunt + ": last", x.hunt(state, m, 3), last);
    }
}
