/** V, FAULTS, and promises 35 to 42: each sentence that names a boundary, on both of its sides. */
public final class FaultEdgeTest {
    private static final int STATES = 2772, TRIALS = 325;

    public static void main(String[] args) {
        outcomesOfAll();
        statesFrom0To2771();
        trialsFrom0To324();
        outcomesFrom0To4();
        upTo24Notes();
        causesFrom0To4();
        leftForEach();
        statesInOrder();
        leftBy24Notes();
        noneLeft();
        sharesOfAll();
        sharesOfGoodAndBroken();
        bestOfTwo();
        bestTheFirst();
        nothingPartsThem();
        huntsWithoutATrial();
        huntsAmong();
        huntsMade();
        notesStay();
        huntWhats();
        Due.end("FaultEdgeTest");
    }

    /** "numbered ((TIMING + 4) 7 + BENT + 3) 44 + WORN 11 + PULL + 5" */
    private static int state(int timing, int bent, int worn, int pull) {
        return ((timing + 4) * 7 + bent + 3) * 44 + worn * 11 + pull + 5;
    }

    /** "numbered ((SPEED - 1) 5 + CLOTH - 1) 13 + SWING + 6" */
    private static int trial(int speed, int cloth, int swing) {
        return ((speed - 1) * 5 + cloth - 1) * 13 + swing + 6;
    }

    private static int causes(int timing, int bent, int worn, int pull) {
        return (timing == 0 ? 0 : 1) + (bent == 0 ? 0 : 1) + (worn == 0 ? 0 : 1) + (pull == 0 ? 0 : 1);
    }

    /** How many CAUSES each STATE has, by its number. */
    private static int[] allCauses() {
        int[] all = new int[STATES];
        int number = 0;
        for (int timing = -4; timing <= 4; timing++) {
            for (int bent = -3; bent <= 3; bent++) {
                for (int worn = 0; worn <= 3; worn++) {
                    for (int pull = -5; pull <= 5; pull++) {
                        all[number++] = causes(timing, bent, worn, pull);
                    }
                }
            }
        }
        return all;
    }

    private static int outcomeDue(int timing, int bent, int worn, int pull, int speed, int cloth, int swing) {
        if (Math.abs(2 * timing + bent * swing) > 9 - worn - speed) {
            return 1;
        }
        if (10 * pull > 6 * cloth) {
            return 3;
        }
        if (10 * pull < -6 * cloth) {
            return 2;
        }
        return Math.abs(bent) == 3 && speed >= 4 && Math.abs(swing) >= 4 ? 4 : 0;
    }

    /** Each OUTCOME of each TRIAL in each STATE. */
    private static void outcomesOfAll() {
        int number = 0;
        for (int timing = -4; timing <= 4; timing++) {
            for (int bent = -3; bent <= 3; bent++) {
                for (int worn = 0; worn <= 3; worn++) {
                    for (int pull = -5; pull <= 5; pull++) {
                        outcomesOf(number++, timing, bent, worn, pull);
                    }
                }
            }
        }
        Due.due("states", number, STATES);
    }

    private static void outcomesOf(int state, int timing, int bent, int worn, int pull) {
        CamStitch x = new CamStitch();
        int number = 0;
        for (int speed = 1; speed <= 5; speed++) {
            for (int cloth = 1; cloth <= 5; cloth++) {
                for (int swing = -6; swing <= 6; swing++) {
                    int due = outcomeDue(timing, bent, worn, pull, speed, cloth, swing);
                    int got = x.outcome(state, number);
                    if (got != due || number == 0) {
                        Due.due("outcome(" + state + ", " + number + ")", got, due);
                    }
                    number++;
                }
            }
        }
        Due.due("trials", number, TRIALS);
        Due.due("a trial more", x.outcome(state, number), -1);
    }

    /** "(0 .. 2771)" */
    private static void statesFrom0To2771() {
        CamStitch x = new CamStitch();
        int[] beyond = {-1, 2772, 2773, 65536, Integer.MIN_VALUE, Integer.MAX_VALUE};
        for (int s : beyond) {
            Due.due("outcome(" + s + ", 0)", x.outcome(s, 0), -1);
            Due.due("outcome(" + s + ", 325)", x.outcome(s, 325), -1);
            for (int what = 0; what <= 3; what++) {
                Due.due("hunt(" + s + ", 0, " + what + ")", x.hunt(s, 0, what), -1);
            }
        }
        Due.due("the first", x.outcome(0, 0), 1);
        Due.due("the last", x.outcome(2771, 0), 1);
        Due.due("hunt the first", x.hunt(0, 0, 1), 1);
        Due.due("hunt the last", x.hunt(2771, 0, 1), 1);
    }

    /** "(0 .. 324)" */
    private static void trialsFrom0To324() {
        CamStitch x = new CamStitch();
        int[] beyond = {-1, 325, 326, 65536, Integer.MIN_VALUE, Integer.MAX_VALUE};
        for (int t : beyond) {
            Due.due("outcome(0, " + t + ")", x.outcome(0, t), -1);
            Due.due("note(" + t + ", 0)", x.note(t, 0), -1);
            Due.due("share(0, " + t + ")", x.share(0, t), -1);
        }
        Due.due("notes", x.count(4), 0);
        Due.due("share of the first", x.share(4, 0) > 0 ? 1 : 0, 1);
        Due.due("share of the last", x.share(0, 324), 1);
        Due.due("note the first", x.note(0, 0), 1);
        Due.due("note the last", x.note(324, 0), 2);
    }

    /** "OUTCOME (0 .. 4)" */
    private static void outcomesFrom0To4() {
        for (int outcome = -2; outcome <= 6; outcome++) {
            CamStitch x = new CamStitch();
            boolean is = outcome >= 0 && outcome <= 4;
            Due.due("note(200, " + outcome + ")", x.note(200, outcome), is ? 1 : -1);
            Due.due("notes", x.count(4), is ? 1 : 0);
            int[] due = {2772, 0, 0, 0, 0};
            if (is) {
                due[0] = 0;
                for (int s = 0; s < 400; s++) {
                    due[0] += x.outcome(s, 200) == outcome ? 1 : 0;
                }
                // STATES 0 to 399 that have this OUTCOME are the first that are LEFT.
                Due.due("the last of them", due[0] == 0 ? -1 : x.state(4, due[0] - 1) < 400 ? 1 : 0, due[0] == 0 ? -1 : 1);
                Due.due("the next one", x.state(4, due[0]) < 400 && x.state(4, due[0]) >= 0 ? 1 : 0, 0);
            } else {
                Due.due("all are left", x.left(4), 2772);
            }
        }
    }

    /** "NOTES: up to 24 TRIALS with OUTCOMES." */
    private static void upTo24Notes() {
        CamStitch x = new CamStitch();
        Due.due("noteless of none", x.noteless(), 0);
        for (int i = 1; i <= 24; i++) {
            Due.due("note " + i, x.note(0, 0), i);
            Due.due("notes", x.count(4), i);
        }
        for (int outcome = 0; outcome <= 4; outcome++) {
            Due.due("a 25th", x.note(0, outcome), -2);
        }
        Due.due("a 25th without a trial", x.note(325, 0), -1);
        Due.due("a 25th without an outcome", x.note(0, 5), -1);
        Due.due("notes", x.count(4), 24);
        Due.due("as if noted once", x.left(1), 14);
        Due.due("noteless", x.noteless(), 24);
        Due.due("noteless again", x.noteless(), 0);
        Due.due("all again", x.left(1), 28);
        Due.due("the first again", x.note(0, 1), 1);
        x.begin();
        Due.due("none behind begin()", x.noteless(), 0);
    }

    /** "LEFT for m (0 .. 4)" */
    private static void causesFrom0To4() {
        CamStitch x = new CamStitch();
        int[] beyond = {-1, 5, 6, 256, Integer.MIN_VALUE, Integer.MAX_VALUE};
        for (int m : beyond) {
            Due.due("left(" + m + ")", x.left(m), -1);
            Due.due("state(" + m + ", 0)", x.state(m, 0), -1);
            Due.due("best(" + m + ")", x.best(m), -1);
            Due.due("share(" + m + ", 0)", x.share(m, 0), -1);
            for (int what = 0; what <= 3; what++) {
                Due.due("hunt(0, " + m + ", " + what + ")", x.hunt(0, m, what), -1);
            }
        }
        int[] left = {1, 28, 288, 1332, 2772};
        for (int m = 0; m <= 4; m++) {
            Due.due("left(" + m + ")", x.left(m), left[m]);
            Due.due("the last of " + m, x.state(m, left[m] - 1) >= 0 ? 1 : 0, 1);
            Due.due("one more of " + m, x.state(m, left[m]), -1);
            Due.due("none before", x.state(m, -1), -1);
        }
    }

    /** "at most m CAUSES": how many of the four aren't 0. */
    private static void leftForEach() {
        int[] causes = allCauses();
        for (int m = 0; m <= 4; m++) {
            int due = 0;
            for (int s = 0; s < STATES; s++) {
                due += causes[s] <= m ? 1 : 0;
            }
            Due.due("left(" + m + ")", new CamStitch().left(m), due);
        }
    }

    /** "The i-th STATE LEFT for m, by number." */
    private static void statesInOrder() {
        int[] causes = allCauses();
        for (int m = 0; m <= 4; m++) {
            CamStitch x = new CamStitch();
            int i = 0;
            for (int s = 0; s < STATES; s++) {
                if (causes[s] <= m) {
                    if (i % 400 == 0) {
                        x = new CamStitch();
                    }
                    Due.due("state(" + m + ", " + i + ")", x.state(m, i), s);
                    i++;
                }
            }
            Due.due("no more for " + m, x.state(m, i), -1);
            Due.due("far beyond", x.state(m, Integer.MAX_VALUE), -1);
            Due.due("far before", x.state(m, Integer.MIN_VALUE), -1);
        }
    }

    /** "that have all the OUTCOMES noted": the first NOTE and the 24th count alike. */
    private static void leftBy24Notes() {
        int state = state(2, -1, 1, 3);
        for (int bad = -1; bad < 24; bad++) {
            CamStitch x = new CamStitch();
            for (int i = 0; i < 24; i++) {
                int trial = 14 * i;
                int outcome = x.outcome(state, trial);
                x.note(trial, i == bad ? (outcome + 1) % 5 : outcome);
            }
            Due.due("notes", x.count(4), 24);
            boolean isLeft = false;
            int left = x.left(4);
            for (int i = 0; i < left && i < 200; i++) {
                isLeft |= x.state(4, i) == state;
            }
            Due.due("left, but for note " + bad, isLeft ? 1 : 0, bad < 0 ? 1 : 0);
        }
    }

    private static void noneLeft() {
        CamStitch x = new CamStitch();
        x.note(0, 0);
        x.note(0, 1);
        for (int m = 0; m <= 4; m++) {
            Due.due("left(" + m + ")", x.left(m), 0);
            Due.due("state(" + m + ", 0)", x.state(m, 0), -1);
            Due.due("best(" + m + ")", x.best(m), -4);
            Due.due("share(" + m + ", 0)", x.share(m, 0), 0);
            Due.due("share(" + m + ", 324)", x.share(m, 324), 0);
        }
        x.noteless();
        Due.due("one is left", x.left(0), 1);
        Due.due("share of one", x.share(0, 0), 1);
        Due.due("best of one", x.best(0), -4);
    }

    /** "The greatest share that a TRIAL leaves of the STATES LEFT for m." */
    private static void sharesOfAll() {
        int[] causes = allCauses();
        int[][] noted = {{}, {0, 0}, {324, 1}, {trial(4, 1, 4), 4}, {trial(1, 1, 0), 3}, {trial(1, 1, 0), 2}};
        for (int[] note : noted) {
            for (int m = 1; m <= 4; m++) {
                CamStitch x = new CamStitch();
                if (note.length > 0) {
                    x.note(note[0], note[1]);
                }
                for (int t = 0; t < TRIALS; t += 9) {
                    Due.due("share(" + m + ", " + t + ")", x.share(m, t), shareDue(causes, m, note, t));
                }
            }
        }
    }

    private static int outcomeOf(int s, int t) {
        return outcomeDue(s / 308 - 4, s / 44 % 7 - 3, s / 11 % 4, s % 11 - 5, t / 65 + 1, t / 13 % 5 + 1, t % 13 - 6);
    }

    private static int shareDue(int[] causes, int m, int[] note, int t) {
        int[] parts = new int[5];
        for (int s = 0; s < STATES; s++) {
            if (causes[s] <= m && (note.length == 0 || outcomeOf(s, note[0]) == note[1])) {
                parts[outcomeOf(s, t)]++;
            }
        }
        int most = 0;
        for (int part : parts) {
            most = Math.max(most, part);
        }
        return most;
    }

    /** GOOD and BROKEN are two shares, also where both together would be the greatest. */
    private static void sharesOfGoodAndBroken() {
        int[] causes = allCauses();
        int[] note = {1, 0};
        for (int m = 2; m <= 4; m++) {
            CamStitch x = new CamStitch();
            x.note(note[0], note[1]);
            for (int t = trial(4, 1, -6); t < TRIALS; t++) {
                Due.due("share(" + m + ", " + t + ")", x.share(m, t), shareDue(causes, m, note, t));
            }
        }
        CamStitch x = new CamStitch();
        x.note(1, 0);
        // 34 are GOOD, 20 SKIPPED and 2 BROKEN.
        Due.due("share of 34, 20 and 2", x.share(2, trial(4, 1, -4)), 34);
    }

    /** "UNABLE: fewer than two STATES are LEFT": two are enough. */
    private static void bestOfTwo() {
        CamStitch x = new CamStitch();
        // PULL 3, 4 or 5; then PULL 3 is told by CLOTH 4 against 5, and 4 from 5 by none.
        x.note(trial(1, 4, 0), 3);
        Due.due("three are left", x.left(1), 3);
        Due.due("the last trial's cloth tells", x.best(1), trial(1, 5, -6));
        Due.due("shares 2 and 1", x.share(1, x.best(1)), 2);
        CamStitch y = new CamStitch();
        // PULL 2 or 3: below CLOTH 4's 24 and above CLOTH 2's 12; CLOTH 3's 18 parts them.
        y.note(trial(1, 4, 0), 0);
        y.note(trial(1, 2, 0), 3);
        Due.due("one is left", y.left(1), 1);
        Due.due("best of one", y.best(1), -4);
        CamStitch z = new CamStitch();
        z.note(trial(1, 5, 0), 0);
        z.note(trial(1, 3, 0), 3);
        // PULL 2 (20 above 18) or 3 (30 isn't above 30).
        Due.due("two are left", z.left(1), 2);
        Due.due("cloth 4 parts them", z.best(1), trial(1, 4, -6));
        Due.due("shares 1 and 1", z.share(1, z.best(1)), 1);
    }

    /** "whose greatest share is least ..., then the first by number" */
    private static void bestTheFirst() {
        int[][] noted = {{}, {0, 0}, {324, 1}, {trial(4, 1, 4), 4}, {trial(1, 1, 0), 3}, {trial(1, 2, 6), 0}};
        for (int[] note : noted) {
            for (int m = 0; m <= 4; m++) {
                CamStitch x = new CamStitch();
                if (note.length > 0) {
                    x.note(note[0], note[1]);
                }
                int best = -4;
                int least = x.left(m);
                for (int t = 0; t < TRIALS; t++) {
                    int share = x.share(m, t);
                    if (share < least) {
                        least = share;
                        best = t;
                    }
                }
                Due.due("best(" + m + ")", x.best(m), best);
            }
        }
    }

    /** "or no TRIAL parts them" */
    private static void nothingPartsThem() {
        CamStitch x = new CamStitch();
        x.note(trial(1, 5, 0), 2);
        // PULL -4 or -5.
        Due.due("two are left", x.left(1), 2);
        Due.due("the first", x.state(1, 0), state(0, 0, 0, -5));
        Due.due("the second", x.state(1, 1), state(0, 0, 0, -4));
        Due.due("none parts them", x.best(1), -4);
        for (int t = 0; t < TRIALS; t += 4) {
            Due.due("share of " + t, x.share(1, t), 2);
        }
        // A HUNT for one of them ends with both.
        Due.due("hunt: left", x.hunt(state(0, 0, 0, -5), 1, 1), 2);
        Due.due("hunt: among", x.hunt(state(0, 0, 0, -5), 1, 2), 1);
    }

    /** "3 on its last TRIAL (-2: none)" */
    private static void huntsWithoutATrial() {
        CamStitch x = new CamStitch();
        int none = state(0, 0, 0, 0);
        int[] states = {0, none - 1, none, none + 1, 2771};
        for (int s : states) {
            Due.due("made for " + s, x.hunt(s, 0, 0), 0);
            Due.due("left for " + s, x.hunt(s, 0, 1), 1);
            Due.due("among for " + s, x.hunt(s, 0, 2), s == none ? 1 : 0);
            Due.due("last for " + s, x.hunt(s, 0, 3), -2);
        }
        Due.due("a last one for m 1", x.hunt(none, 1, 3) >= 0 ? 1 : 0, 1);
    }

    /** "2 whether that STATE is among them (1, 0)": it is, if it has at most m CAUSES. */
    private static void huntsAmong() {
        int[] causes = allCauses();
        for (int m = 0; m <= 2; m++) {
            CamStitch x = new CamStitch();
            int by = m == 2 ? 7 : 1;
            for (int s = 0; s < STATES; s += by) {
                if (s / by % 200 == 0) {
                    x = new CamStitch();
                }
                if (s / by % 50 == 0) {
                    // What was LEFT for another m ahead of it isn't looked at.
                    Due.due("left(4)", x.left(4), 2772);
                }
                Due.due("hunt(" + s + ", " + m + ", 2)", x.hunt(s, m, 2), causes[s] <= m ? 1 : 0);
            }
        }
        for (int s = 0; s < STATES; s += 211) {
            for (int m = 3; m <= 4; m++) {
                Due.due("hunt(" + s + ", " + m + ", 2)", new CamStitch().hunt(s, m, 2), causes[s] <= m ? 1 : 0);
            }
        }
        for (int s = 0; s < 44; s++) {
            CamStitch x = new CamStitch();
            x.left(4);
            Due.due("hunt(" + s + ", 0, 2) behind left(4)", x.hunt(s, 0, 2), 0);
        }
    }

    /** A HUNT made by hand: the BEST TRIAL is noted with the STATE's OUTCOME while it parts what is LEFT. */
    private static void huntsMade() {
        for (int s = 0; s < STATES; s += 97) {
            for (int m = 0; m <= 4; m++) {
                CamStitch x = new CamStitch();
                int made = 0;
                int last = -2;
                for (int best = x.best(m); best != -4 && made < 20; best = x.best(m)) {
                    x.note(best, x.outcome(s, best));
                    last = best;
                    made++;
                }
                int left = x.left(m);
                Due.due("hunt(" + s + ", " + m + ", 0)", x.hunt(s, m, 0), made);
                Due.due("hunt(" + s + ", " + m + ", 1)", x.hunt(s, m, 1), left);
                Due.due("hunt(" + s + ", " + m + ", 3)", x.hunt(s, m, 3), last);
                Due.due("at most 20", made <= 20 ? 1 : 0, 1);
            }
        }
    }

    /** "from no NOTES on"; "NOTES stay as they are" */
    private static void notesStay() {
        CamStitch none = new CamStitch();
        CamStitch full = new CamStitch();
        for (int i = 0; i < 24; i++) {
            full.note(324, 3);
        }
        int left = full.left(4);
        for (int what = 0; what <= 3; what++) {
            Due.due("24 notes, what " + what, full.hunt(700, 2, what), none.hunt(700, 2, what));
        }
        Due.due("notes", full.count(4), 24);
        Due.due("no notes", none.count(4), 0);
        Due.due("left by the notes", full.left(4), left);
        Due.due("all are left", none.left(4), 2772);
    }

    private static void huntWhats() {
        CamStitch x = new CamStitch();
        int[] beyond = {-1, 4, 5, 256, Integer.MIN_VALUE, Integer.MAX_VALUE};
        for (int what : beyond) {
            Due.due("hunt(0, 1, " + what + ")", x.hunt(0, 1, what), -1);
            Due.due("hunt(2771, 4, " + what + ")", x.hunt(2771, 4, what), -1);
        }
    }
}
