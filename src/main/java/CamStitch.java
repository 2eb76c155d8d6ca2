import java.util.Arrays;

/**
 * A maker's room for machines that sew by a disc. ../shared/DOC.md says what each call promises; the words in
 * capitals are its terms. All rows are made in the constructors and used again, as the room for objects is small.
 */
public final class CamStitch {
    public static final int NONE = -1, FULL = -2, BARE = -3, UNABLE = -4, HOLDS = 9999;
    public static final int NOTHING = -11, CAST = -12, PLACE = -13, SIZE = -14, THROWN = -15;

    private static final int MOST_POINTS = 24, WIDEST = 12, FARTHEST = 100;
    private static final int MOST_STITCHES = 48, MOST_SIDES = 8, LONGEST_SIDE = 999;
    private static final int MOST_STEPS = 20, LONGEST_SEAM = 600;
    private static final int THICKEST = 60, TIGHTEST = 99, FULLEST = 1000000;
    private static final int SHELVES = 8, MOST_WEAR = 6, MISSING = -128;
    private static final int STATES = 2772, TRIALS = 325, OUTCOMES = 5, MOST_CAUSES = 4, MOST_NOTES = 24;
    private static final int TAPES = 6, LONGEST_ROW = 400;

    /** What a TAPE holds. */
    private static final int EMPTY = 0, BYTES = 1, SHORTS = 2, INTS = 3, LONGS = 4, ONE_DISC = 5;
    /** What a check answers when nothing speaks against the call. */
    private static final int FINE = 0;

    private final Pattern pattern = new Pattern();
    private final Reader reader = new Reader();
    private final Disc work = new Disc();
    private final Disc spare = new Disc();
    private final Disc[] shelves = new Disc[SHELVES];
    private final Hem hem = new Hem();
    private final Bench bench = new Bench();
    private final Job job = new Job();
    private final Seam seam = new Seam();
    private final Rim rim = new Rim();
    private final Faults faults = new Faults();
    private final Tape[] tapes = new Tape[TAPES];
    private int refusals;

    public CamStitch() {
        for (int k = 0; k < SHELVES; k++) {
            shelves[k] = new Disc();
        }
        for (int d = 0; d < TAPES; d++) {
            tapes[d] = new Tape();
        }
    }

    public int begin() {
        pattern.forget();
        work.forget();
        for (int k = 0; k < SHELVES; k++) {
            shelves[k].forget();
        }
        hem.sides = 0;
        bench.reset();
        job.steps = 0;
        seam.forget();
        faults.notes = 0;
        refusals = 0;
        return 0;
    }

    // ---- I. patterns and discs

    public int read(int d) {
        int against = againstSort(d, BYTES);
        if (against != FINE) {
            return counted(against);
        }
        int fault = reader.firstFault(tapes[d]);
        if (fault != Reader.SOUND) {
            return -100 - fault;
        }
        pattern.become(reader.draft);
        return pattern.points;
    }

    public int point(int k, int what) throws IllegalArgumentException, IllegalStateException {
        if (what < 0 || what > 1) {
            throw new IllegalArgumentException("no such what");
        }
        if (k < 0 || k >= pattern.points) {
            throw new IllegalStateException("no such point");
        }
        return what == 0 ? pattern.xs[k] : pattern.ys[k];
    }

    public int advance() throws IllegalStateException {
        if (pattern.points == 0) {
            throw new IllegalStateException("no pattern");
        }
        return pattern.advance;
    }

    public int make(int s, int f) {
        if (s < 1 || s > WIDEST || f < 1 || f > WIDEST) {
            return NONE;
        }
        if (pattern.points == 0) {
            return BARE;
        }
        return work.becomesMadeFrom(pattern, s, f) ? work.stitches : FULL;
    }

    public int disc(int what) throws IllegalArgumentException, IllegalStateException {
        if (what < 0 || what > 6) {
            throw new IllegalArgumentException("no such what");
        }
        if (work.stitches == 0) {
            throw new IllegalStateException("no disc at work");
        }
        switch (what) {
            case 0: return work.stitches;
            case 1: return work.sumOfFeeds();
            case 2: return work.steepness();
            case 3: return work.greatestOf(work.swings);
            case 4: return work.leastOf(work.swings);
            case 5: return work.greatestOf(work.feeds);
            default: return work.leastOf(work.feeds);
        }
    }

    public int stitch(int j, int what) throws IllegalArgumentException, IllegalStateException {
        if (what < 0 || what > 1) {
            throw new IllegalArgumentException("no such what");
        }
        if (j < 0 || j >= work.stitches) {
            throw new IllegalStateException("no such stitch");
        }
        return what == 0 ? work.swings[j] : work.feeds[j];
    }

    public int file(int j, int swing, int feed) {
        if (j < 0 || j >= work.stitches || !isWithin(swing, WIDEST) || !isWithin(feed, WIDEST)) {
            return NONE;
        }
        work.swings[j] = swing;
        work.feeds[j] = feed;
        return 1;
    }

    public int makes() {
        if (pattern.points == 0 || work.stitches == 0) {
            return BARE;
        }
        int k = work.firstMissed(pattern);
        return k > pattern.points ? HOLDS : k;
    }

    public int lay(int shelf) {
        if (!isShelf(shelf)) {
            return NONE;
        }
        if (work.stitches == 0) {
            return BARE;
        }
        shelves[shelf].become(work);
        return work.stitches;
    }

    public int take(int shelf) {
        if (!isShelf(shelf)) {
            return NONE;
        }
        return comesFrom(shelf) ? work.stitches : BARE;
    }

    public int turn(int j, int mirror) {
        if (j < 0 || j >= work.stitches || mirror < 0 || mirror > 1) {
            return NONE;
        }
        spare.become(work);
        work.becomeTurned(spare, j, mirror == 1 ? -1 : 1);
        return 1;
    }

    // ---- II. hems

    public int side(int length) {
        if (length < 1 || length > LONGEST_SIDE) {
            return NONE;
        }
        if (hem.sides >= MOST_SIDES) {
            return FULL;
        }
        hem.lengths[hem.sides] = length;
        hem.sides++;
        return hem.sides;
    }

    public int sideless() {
        int had = hem.sides;
        hem.sides = 0;
        return had;
    }

    public int hem(int i, int what) throws IllegalArgumentException, IllegalStateException {
        if (what < 0 || what > 4) {
            throw new IllegalArgumentException("no such what");
        }
        if (!hem.measures(i, work)) {
            throw new IllegalStateException("no such side, or no disc with a length");
        }
        switch (what) {
            case 0: return hem.rounds;
            case 1: return hem.rest;
            case 2: return hem.fits(work) ? 1 : 0;
            case 3: return hem.stitches;
            default: return hem.greatestChange();
        }
    }

    public int fed(int i, int j) throws IllegalStateException {
        if (!hem.measures(i, work) || j < 0 || j >= hem.stitches) {
            throw new IllegalStateException("no such side or stitch, or no disc with a length");
        }
        return hem.feedOf(work, j);
    }

    public int meets() {
        if (hem.sides == 0) {
            return BARE;
        }
        for (int i = 0; i < hem.sides; i++) {
            if (!hem.measures(i, work)) {
                return BARE;
            }
            if (!hem.fits(work)) {
                return 0;
            }
        }
        return 1;
    }

    public int feeds(int d, int i) {
        if (!isTape(d)) {
            return NONE;
        }
        if (!hem.measures(i, work)) {
            return BARE;
        }
        if (hem.stitches > LONGEST_ROW) {
            return FULL;
        }
        tapes[d].becomeRow(SHORTS, hem.stitches);
        for (int j = 0; j < hem.stitches; j++) {
            tapes[d].row[j] = hem.feedOf(work, j);
        }
        return hem.stitches;
    }

    public int judge(int d, int i) {
        if (!isTape(d)) {
            return NONE;
        }
        if (!hem.measures(i, work)) {
            return BARE;
        }
        int against = againstSort(d, SHORTS);
        return counted(against != FINE ? against : hem.judged(tapes[d], i, work));
    }

    // ---- III. sewing

    public int cloth(int which, int thick) {
        if (which < 0 || which > 1 || thick < 0 || thick > THICKEST) {
            return NONE;
        }
        int had = bench.thicks[which];
        bench.thicks[which] = thick;
        return had;
    }

    public int tensions(int upper, int lower) {
        if (upper < 1 || upper > TIGHTEST || lower < 1 || lower > TIGHTEST) {
            return NONE;
        }
        bench.upper = upper;
        bench.lower = lower;
        return bench.depth(upper, lower);
    }

    public int lock() {
        return bench.whereLies(bench.depth(bench.upper, bench.lower));
    }

    public int tune(int which) {
        if (which < 0 || which > 1) {
            return NONE;
        }
        return bench.leastTensions(which);
    }

    public int wind(int spool, int bobbin) {
        if (spool < 0 || spool > FULLEST || bobbin < 0 || bobbin > FULLEST) {
            return NONE;
        }
        bench.spool = spool;
        bench.bobbin = bobbin;
        return 0;
    }

    public int step(int kind, int n) {
        if (!Job.isStep(kind, n)) {
            return NONE;
        }
        if (job.steps >= MOST_STEPS) {
            return FULL;
        }
        job.kinds[job.steps] = kind;
        job.numbers[job.steps] = n;
        job.steps++;
        return job.steps;
    }

    public int stepless() {
        int had = job.steps;
        job.steps = 0;
        return had;
    }

    public int sew() {
        seam.start(work.needle());
        int ended = 0;
        while (ended < job.steps && endsStep(job.kinds[ended], job.numbers[ended])) {
            ended++;
        }
        seam.stepsEnded = ended;
        return seam.stitches;
    }

    public int seam(int what) throws IllegalArgumentException, IllegalStateException {
        if (what < 0 || what > 9) {
            throw new IllegalArgumentException("no such what");
        }
        if (!seam.isSewn) {
            throw new IllegalStateException("none was sewn");
        }
        switch (what) {
            case 0: return seam.stitches;
            case 1: return seam.x;
            case 2: return seam.y;
            case 3: return seam.quarter;
            case 4: return seam.isBack ? 1 : 0;
            case 5: return seam.why;
            case 6: return seam.returns();
            case 7: return seam.upperThread;
            case 8: return seam.lowerThread;
            default: return seam.stepsEnded;
        }
    }

    public int sewn(int i, int what) throws IllegalArgumentException, IllegalStateException {
        if (what < 0 || what > 1) {
            throw new IllegalArgumentException("no such what");
        }
        if (i < 0 || i >= seam.stitches) {
            throw new IllegalStateException("no such stitch");
        }
        return what == 0 ? seam.xs[i] : seam.ys[i];
    }

    public int thread(int which) {
        if (which < 0 || which > 1) {
            return NONE;
        }
        return which == 0 ? bench.spool : bench.bobbin;
    }

    // ---- IV. rims

    public int names(int d, int wear) {
        int against = againstRim(d, wear);
        if (against != FINE) {
            return counted(against);
        }
        rim.find(tapes[d], shelves, wear, NONE);
        return rim.found;
    }

    public int name(int d, int wear, int i) {
        // There is no such name whatever the TAPE holds, and NONE is named ahead of the host's refusals.
        if (i < 0) {
            return NONE;
        }
        int against = againstRim(d, wear);
        return counted(against != FINE ? against : rim.find(tapes[d], shelves, wear, i));
    }

    public int wear(int d) {
        int against = againstRim(d, 0);
        if (against != FINE) {
            return counted(against);
        }
        for (int w = 0; w <= MOST_WEAR; w++) {
            if (rim.find(tapes[d], shelves, w, 0) != NONE) {
                return w;
            }
        }
        return UNABLE;
    }

    // ---- V. faults

    public int outcome(int state, int trial) {
        return isState(state) && isTrial(trial) ? Faults.outcomeOf(state, trial) : NONE;
    }

    public int note(int trial, int outcome) {
        if (!isTrial(trial) || outcome < 0 || outcome >= OUTCOMES) {
            return NONE;
        }
        if (faults.notes >= MOST_NOTES) {
            return FULL;
        }
        faults.trials[faults.notes] = trial;
        faults.outcomes[faults.notes] = outcome;
        faults.notes++;
        return faults.notes;
    }

    public int noteless() {
        int had = faults.notes;
        faults.notes = 0;
        return had;
    }

    public int left(int m) {
        if (!isCauses(m)) {
            return NONE;
        }
        faults.gatherNoted(m);
        return faults.size;
    }

    public int state(int m, int i) {
        if (!isCauses(m)) {
            return NONE;
        }
        faults.gatherNoted(m);
        return faults.numberOf(i);
    }

    public int best(int m) {
        if (!isCauses(m)) {
            return NONE;
        }
        faults.gatherNoted(m);
        return faults.partingTrial();
    }

    public int share(int m, int trial) {
        if (!isCauses(m) || !isTrial(trial)) {
            return NONE;
        }
        faults.gatherNoted(m);
        return faults.greatestShare(trial);
    }

    public int hunt(int state, int m, int what) {
        if (!isState(state) || !isCauses(m) || what < 0 || what > 3) {
            return NONE;
        }
        int made = faults.hunted(state, m);
        switch (what) {
            case 0: return made;
            case 1: return faults.size;
            case 2: return faults.holds(state) ? 1 : 0;
            default: return faults.lastTrial;
        }
    }

    // ---- VI. tapes

    public int tape(int d, int sort, int n) {
        if (!isTape(d) || sort < BYTES || sort > LONGS || n > LONGEST_ROW) {
            return NONE;
        }
        if (n < 0) {
            return counted(SIZE);
        }
        tapes[d].becomeRow(sort, n);
        return n;
    }

    public int keep(int d) {
        if (!isTape(d)) {
            return NONE;
        }
        if (work.stitches == 0) {
            return BARE;
        }
        tapes[d].becomeDisc(work);
        return work.stitches;
    }

    public int back(int d) {
        int against = againstSort(d, ONE_DISC);
        if (against != FINE) {
            return counted(against);
        }
        work.become(tapes[d].disc);
        return work.stitches;
    }

    public int toss(int d) {
        int against = againstSort(d, ONE_DISC);
        if (against != FINE) {
            return counted(against);
        }
        int steep = tapes[d].disc.steepness();
        return counted(steep == 0 ? THROWN : steep);
    }

    public int clear(int d) {
        if (!isTape(d)) {
            return NONE;
        }
        int held = tapes[d].sort;
        tapes[d].sort = EMPTY;
        return held;
    }

    public int put(int d, int i, long v) {
        int against = againstRow(d);
        if (against != FINE) {
            return counted(against);
        }
        if (i < 0 || i >= tapes[d].length) {
            return counted(PLACE);
        }
        tapes[d].row[i] = tapes[d].narrowed(v);
        return 1;
    }

    public long at(int d, int i) throws IllegalArgumentException, IllegalStateException {
        if (!isTape(d)) {
            throw new IllegalArgumentException("no such tape");
        }
        if (!tapes[d].isRow() || i < 0 || i >= tapes[d].length) {
            throw new IllegalStateException("no row, or no such place");
        }
        return tapes[d].row[i];
    }

    public int copy(int d, int i, int e, int j, int n) {
        if (!isTape(d) || !isTape(e)) {
            return NONE;
        }
        Tape from = tapes[d];
        Tape to = tapes[e];
        if (from.sort == EMPTY || to.sort == EMPTY) {
            return counted(NOTHING);
        }
        if (!from.isRow() || from.sort != to.sort) {
            return counted(CAST);
        }
        if (!from.hasPlaces(i, n) || !to.hasPlaces(j, n)) {
            return counted(PLACE);
        }
        System.arraycopy(from.row, i, to.row, j, n);
        return n;
    }

    public int count(int what) {
        switch (what) {
            case 0: return pattern.points;
            case 1: return shelvesInUse();
            case 2: return hem.sides;
            case 3: return job.steps;
            case 4: return faults.notes;
            case 5: return refusals;
            default: return NONE;
        }
    }

    // ---- what several calls need

    private static boolean isWithin(int number, int most) {
        return number >= -most && number <= most;
    }

    private static boolean isShelf(int shelf) {
        return shelf >= 0 && shelf < SHELVES;
    }

    private static boolean isTape(int d) {
        return d >= 0 && d < TAPES;
    }

    private static boolean isState(int state) {
        return state >= 0 && state < STATES;
    }

    private static boolean isTrial(int trial) {
        return trial >= 0 && trial < TRIALS;
    }

    private static boolean isCauses(int m) {
        return m >= 0 && m <= MOST_CAUSES;
    }

    /** Each answer that may be a refusal of the host's goes through here, so that count(5) knows of it. */
    private int counted(int answer) {
        if (answer >= THROWN && answer <= NOTHING) {
            refusals++;
        }
        return answer;
    }

    /** What speaks against TAPE d where a thing of this sort is wanted: NONE, NOTHING, CAST, or FINE. */
    private int againstSort(int d, int sort) {
        if (!isTape(d)) {
            return NONE;
        }
        if (tapes[d].sort == EMPTY) {
            return NOTHING;
        }
        return tapes[d].sort == sort ? FINE : CAST;
    }

    private int againstRow(int d) {
        if (!isTape(d)) {
            return NONE;
        }
        if (tapes[d].sort == EMPTY) {
            return NOTHING;
        }
        return tapes[d].isRow() ? FINE : CAST;
    }

    private int againstRim(int d, int wear) {
        if (wear < 0 || wear > MOST_WEAR) {
            return NONE;
        }
        int against = againstSort(d, BYTES);
        if (against != FINE) {
            return against;
        }
        return tapes[d].length < 1 || tapes[d].length > MOST_STITCHES ? UNABLE : FINE;
    }

    private int shelvesInUse() {
        int used = 0;
        for (int k = 0; k < SHELVES; k++) {
            if (shelves[k].stitches > 0) {
                used++;
            }
        }
        return used;
    }

    /** The DISC of a shelf comes to work; false if the shelf is bare. */
    private boolean comesFrom(int shelf) {
        if (shelves[shelf].stitches == 0) {
            return false;
        }
        work.become(shelves[shelf]);
        return true;
    }

    /** Sews one STEP of the JOB; false if it couldn't be ended, and the SEAM then knows why. */
    private boolean endsStep(int kind, int n) {
        switch (kind) {
            case Job.TO_DISC:
                if (!comesFrom(n)) {
                    seam.why = Seam.NO_DISC;
                    return false;
                }
                seam.next = 0;
                return true;
            case Job.TO_SEW:
                return seam.sews(work, bench, n);
            case Job.TO_TURN:
                seam.quarter = (seam.quarter + n) % 4;
                return true;
            default:
                seam.isBack = !seam.isBack;
                return true;
        }
    }

    /** A PATTERN; one without POINTS stands for none. */
    private static final class Pattern {
        final int[] xs = new int[MOST_POINTS];
        final int[] ys = new int[MOST_POINTS];
        int points;
        int advance;

        void forget() {
            points = 0;
            advance = 0;
        }

        void become(Pattern other) {
            System.arraycopy(other.xs, 0, xs, 0, MOST_POINTS);
            System.arraycopy(other.ys, 0, ys, 0, MOST_POINTS);
            points = other.points;
            advance = other.advance;
        }

        /** One POINT more; false if it isn't as said, or the 25th. */
        boolean gets(int x, int y) {
            if (points >= MOST_POINTS || !isWithin(x, WIDEST) || !isWithin(y, FARTHEST)) {
                return false;
            }
            xs[points] = x;
            ys[points] = y;
            points++;
            return true;
        }

        /** Where the way from POINT k leads to: the next POINT, or the first one with the ADVANCE. */
        int nextX(int k) {
            return k + 1 < points ? xs[k + 1] : xs[0];
        }

        int nextY(int k) {
            return k + 1 < points ? ys[k + 1] : ys[0] + advance;
        }
    }

    /** Does the ORDERS of a row of bytes one by one, into a draft, so that a fault leaves the PATTERN alone. */
    private static final class Reader {
        static final int SOUND = -1;
        private static final int DEEPEST = 3, MOST_TIMES = 9;
        /** Far above 400 places, each done at most 9 * 9 * 9 times. */
        private static final int MOST_ORDERS = 1000000;

        final Pattern draft = new Pattern();
        private final int[] starts = new int[DEEPEST];
        private final int[] timesLeft = new int[DEEPEST];
        private int depth;
        private int next;
        private int originX;
        private int originY;
        private boolean isMirrored;
        private boolean hasAdvance;

        /** The FIRST FAULT, or SOUND: then the draft is the PATTERN. */
        int firstFault(Tape tape) {
            start();
            int place = 0;
            for (int orders = 0; orders < MOST_ORDERS && place < tape.length; orders++) {
                int order = (int) tape.row[place];
                if (order == 0) {
                    return canEnd() ? SOUND : place;
                }
                int numbers = numbersOf(order);
                if (numbers < 0 || place + numbers >= tape.length) {
                    return place;
                }
                int first = numbers > 0 ? (int) tape.row[place + 1] : 0;
                int second = numbers > 1 ? (int) tape.row[place + 2] : 0;
                next = place + 1 + numbers;
                if (!isDone(order, first, second)) {
                    return place;
                }
                place = next;
            }
            return tape.length;
        }

        private void start() {
            draft.forget();
            depth = 0;
            originX = 0;
            originY = 0;
            isMirrored = false;
            hasAdvance = false;
        }

        private boolean canEnd() {
            return depth == 0 && draft.points > 0 && hasAdvance;
        }

        /** How many numbers an ORDER has; -1 if there is no such ORDER. */
        private static int numbersOf(int order) {
            switch (order) {
                case 1:
                case 2:
                    return 2;
                case 4:
                case 6:
                    return 1;
                case 3:
                case 5:
                    return 0;
                default:
                    return -1;
            }
        }

        private boolean isDone(int order, int first, int second) {
            int across = isMirrored ? -first : first;
            switch (order) {
                case 1:
                    return draft.gets(originX + across, originY + second);
                case 2:
                    originX += across;
                    originY += second;
                    return isWithin(originX, FARTHEST) && isWithin(originY, FARTHEST);
                case 3:
                    isMirrored = !isMirrored;
                    return true;
                case 4:
                    return opens(first);
                case 5:
                    return closes();
                default:
                    draft.advance = first;
                    hasAdvance = true;
                    return isWithin(first, FARTHEST);
            }
        }

        private boolean opens(int times) {
            if (times < 1 || times > MOST_TIMES || depth >= DEEPEST) {
                return false;
            }
            starts[depth] = next;
            timesLeft[depth] = times;
            depth++;
            return true;
        }

        private boolean closes() {
            if (depth < 1) {
                return false;
            }
            timesLeft[depth - 1]--;
            if (timesLeft[depth - 1] > 0) {
                next = starts[depth - 1];
            } else {
                depth--;
            }
            return true;
        }
    }

    /** A DISC's place (at work, on a shelf, on a TAPE) with what stands there; no STITCHES stand for no DISC. */
    private static final class Disc {
        final int[] swings = new int[MOST_STITCHES];
        final int[] feeds = new int[MOST_STITCHES];
        int stitches;

        void forget() {
            stitches = 0;
        }

        void become(Disc other) {
            System.arraycopy(other.swings, 0, swings, 0, MOST_STITCHES);
            System.arraycopy(other.feeds, 0, feeds, 0, MOST_STITCHES);
            stitches = other.stitches;
        }

        /** False, and unchanged, if it would have more than 48 STITCHES. */
        boolean becomesMadeFrom(Pattern pattern, int s, int f) {
            int wanted = 0;
            for (int k = 0; k < pattern.points; k++) {
                wanted += parts(pattern, k, s, f);
            }
            if (wanted > MOST_STITCHES) {
                return false;
            }
            stitches = 0;
            for (int k = 0; k < pattern.points; k++) {
                addWay(pattern, k, parts(pattern, k, s, f));
            }
            return true;
        }

        /** How many STITCHES the way from POINT k is parted into. */
        private static int parts(Pattern pattern, int k, int s, int f) {
            int across = Math.abs(pattern.nextX(k) - pattern.xs[k]);
            int along = Math.abs(pattern.nextY(k) - pattern.ys[k]);
            return Math.max(1, Math.max(roundedUp(across, s), roundedUp(along, f)));
        }

        private static int roundedUp(int way, int part) {
            return part < 1 ? 0 : (way + part - 1) / part;
        }

        private void addWay(Pattern pattern, int k, int n) {
            int dx = pattern.nextX(k) - pattern.xs[k];
            int dy = pattern.nextY(k) - pattern.ys[k];
            int stood = 0;
            for (int i = 1; i <= n && stitches < MOST_STITCHES; i++) {
                int stands = Math.floorDiv(dy * i, n);
                swings[stitches] = pattern.xs[k] + Math.floorDiv(dx * i, n);
                feeds[stitches] = stands - stood;
                stitches++;
                stood = stands;
            }
        }

        void becomeTurned(Disc old, int first, int sign) {
            for (int j = 0; j < old.stitches; j++) {
                int from = (first + j) % old.stitches;
                swings[j] = sign * old.swings[from];
                feeds[j] = old.feeds[from];
            }
        }

        /** Where its NEEDLE stands at the beginning; 0 if there is no DISC. */
        int needle() {
            return stitches > 0 ? swings[stitches - 1] : 0;
        }

        int sumOfFeeds() {
            int sum = 0;
            for (int j = 0; j < stitches; j++) {
                sum += feeds[j];
            }
            return sum;
        }

        int steepness() {
            int steep = 0;
            int was = needle();
            for (int j = 0; j < stitches; j++) {
                steep = Math.max(steep, Math.abs(swings[j] - was));
                was = swings[j];
            }
            return steep;
        }

        int greatestOf(int[] row) {
            int greatest = row[0];
            for (int j = 1; j < stitches; j++) {
                greatest = Math.max(greatest, row[j]);
            }
            return greatest;
        }

        int leastOf(int[] row) {
            int least = row[0];
            for (int j = 1; j < stitches; j++) {
                least = Math.min(least, row[j]);
            }
            return least;
        }

        /** The first POINT (1 on; their count for the end) that no STITCH stands at; above the count if none is. */
        int firstMissed(Pattern pattern) {
            int k = 1;
            int y = pattern.ys[0];
            boolean isLastForPoint = false;
            for (int j = 0; j < stitches; j++) {
                y += feeds[j];
                isLastForPoint = k < pattern.points && swings[j] == pattern.xs[k] && y == pattern.ys[k];
                if (isLastForPoint) {
                    k++;
                }
            }
            // A STITCH that counts for a POINT, as early as can be, doesn't count for the end besides.
            if (k < pattern.points || isLastForPoint) {
                return k;
            }
            boolean isAtEnd = needle() == pattern.xs[0] && y == pattern.ys[0] + pattern.advance;
            return isAtEnd ? k + 1 : k;
        }
    }

    /** The SIDES of the HEM, and how the DISC at work makes the one that was measured last. */
    private static final class Hem {
        final int[] lengths = new int[MOST_SIDES];
        int sides;
        int rounds;
        int rest;
        int stitches;

        /** Measures SIDE i for a DISC; false if there is no such SIDE, or no DISC with a LENGTH above 0. */
        boolean measures(int i, Disc disc) {
            int round = disc.sumOfFeeds();
            if (i < 0 || i >= sides || round < 1) {
                return false;
            }
            int length = lengths[i];
            rounds = Math.max(1, length / round);
            if (length - rounds * round > (rounds + 1) * round - length) {
                rounds++;
            }
            rest = length - rounds * round;
            stitches = rounds * disc.stitches;
            return true;
        }

        /** How much of REST the first j STITCHES have got. */
        private int spread(int j) {
            return stitches < 1 ? 0 : Math.floorDiv(rest * j, stitches);
        }

        int feedOf(Disc disc, int j) {
            return disc.stitches < 1 ? 0 : disc.feeds[j % disc.stitches] + spread(j + 1) - spread(j);
        }

        int greatestChange() {
            return stitches < 1 ? 0 : (Math.abs(rest) + stitches - 1) / stitches;
        }

        boolean fits(Disc disc) {
            for (int j = 0; j < stitches; j++) {
                if (!isWithin(feedOf(disc, j), WIDEST)) {
                    return false;
                }
            }
            return true;
        }

        int judged(Tape tape, int i, Disc disc) {
            if (disc.stitches < 1) {
                return BARE;
            }
            int change = greatestChange();
            int sum = 0;
            for (int j = 0; j < stitches; j++) {
                if (j >= tape.length) {
                    return PLACE;
                }
                int feed = (int) tape.row[j];
                if (!isWithin(feed, WIDEST) || !isWithin(feed - disc.feeds[j % disc.stitches], change)) {
                    return j;
                }
                sum += feed;
            }
            return sum == lengths[i] ? HOLDS : stitches;
        }
    }

    /** CLOTHS, TENSIONS and threads. */
    private static final class Bench {
        final int[] thicks = new int[2];
        int upper;
        int lower;
        int spool;
        int bobbin;

        Bench() {
            reset();
        }

        void reset() {
            thicks[0] = 4;
            thicks[1] = 0;
            upper = 20;
            lower = 20;
            spool = 100000;
            bobbin = 5000;
        }

        int bothThicks() {
            return thicks[0] + thicks[1];
        }

        /** LOCK by these TENSIONS. */
        int depth(int above, int below) {
            return above + below < 1 ? 0 : bothThicks() * below / (above + below);
        }

        /** What lock() answers of a LOCK. */
        int whereLies(int lock) {
            if (lock > 0 && lock < thicks[0]) {
                return 0;
            }
            if (lock > thicks[0] && lock < bothThicks()) {
                return 1;
            }
            if (lock == 0) {
                return 2;
            }
            return lock == bothThicks() ? 3 : 4;
        }

        int leastTensions(int which) {
            for (int sum = 2; sum <= 2 * TIGHTEST; sum++) {
                for (int above = Math.max(1, sum - TIGHTEST); above <= TIGHTEST && above < sum; above++) {
                    if (whereLies(depth(above, sum - above)) == which) {
                        return 100 * above + sum - above;
                    }
                }
            }
            return UNABLE;
        }
    }

    private static final class Job {
        static final int TO_DISC = 0, TO_SEW = 1, TO_TURN = 2, TO_BACK = 3;
        private static final int MOST_SEWN = 200;

        final int[] kinds = new int[MOST_STEPS];
        final int[] numbers = new int[MOST_STEPS];
        int steps;

        static boolean isStep(int kind, int n) {
            switch (kind) {
                case TO_DISC: return isShelf(n);
                case TO_SEW: return n >= 1 && n <= MOST_SEWN;
                case TO_TURN: return n >= 1 && n <= 3;
                case TO_BACK: return n == 0;
                default: return false;
            }
        }
    }

    private static final class Seam {
        private static final int JOB_ENDED = 0, SPOOL = 1, BOBBIN = 2, IS_FULL = 3;
        static final int NO_DISC = 4;

        final int[] xs = new int[LONGEST_SEAM];
        final int[] ys = new int[LONGEST_SEAM];
        boolean isSewn;
        int stitches;
        int x;
        int y;
        int quarter;
        boolean isBack;
        int why;
        int upperThread;
        int lowerThread;
        int stepsEnded;
        /** The number of the DISC's next STITCH. */
        int next;
        private int needle;

        void forget() {
            isSewn = false;
            stitches = 0;
        }

        void start(int needleAt) {
            isSewn = true;
            stitches = 0;
            x = 0;
            y = 0;
            quarter = 0;
            isBack = false;
            why = JOB_ENDED;
            upperThread = 0;
            lowerThread = 0;
            stepsEnded = 0;
            next = 0;
            needle = needleAt;
        }

        /** Whether n STITCHES could be sewn; if not, why says what lacked. */
        boolean sews(Disc disc, Bench bench, int n) {
            if (disc.stitches == 0) {
                why = NO_DISC;
                return false;
            }
            for (int i = 0; i < n; i++) {
                if (!sewsOne(disc, bench)) {
                    return false;
                }
            }
            return true;
        }

        private boolean sewsOne(Disc disc, Bench bench) {
            if (stitches >= LONGEST_SEAM) {
                why = IS_FULL;
                return false;
            }
            int dx = disc.swings[next] - needle;
            int dy = isBack ? -disc.feeds[next] : disc.feeds[next];
            if (!takesThread(Math.abs(dx) + Math.abs(dy), bench)) {
                return false;
            }
            needle = disc.swings[next];
            next = next + 1 < disc.stitches ? next + 1 : 0;
            moves(dx, dy);
            xs[stitches] = x;
            ys[stitches] = y;
            stitches++;
            return true;
        }

        private boolean takesThread(int way, Bench bench) {
            int lock = bench.depth(bench.upper, bench.lower);
            int above = way + 2 * lock;
            int below = way + 2 * (bench.bothThicks() - lock);
            if (above > bench.spool || below > bench.bobbin) {
                why = above > bench.spool ? SPOOL : BOBBIN;
                return false;
            }
            bench.spool -= above;
            bench.bobbin -= below;
            upperThread += above;
            lowerThread += below;
            return true;
        }

        private void moves(int dx, int dy) {
            switch (quarter) {
                case 0:
                    x += dx;
                    y += dy;
                    break;
                case 1:
                    x -= dy;
                    y += dx;
                    break;
                case 2:
                    x -= dx;
                    y -= dy;
                    break;
                default:
                    x += dy;
                    y -= dx;
                    break;
            }
        }

        /** How many STITCHES end where the seam had been before. */
        int returns() {
            int many = 0;
            for (int i = 0; i < stitches; i++) {
                if (wasAt(xs[i], ys[i], i)) {
                    many++;
                }
            }
            return many;
        }

        private boolean wasAt(int placeX, int placeY, int before) {
            if (placeX == 0 && placeY == 0) {
                return true;
            }
            for (int i = 0; i < before; i++) {
                if (xs[i] == placeX && ys[i] == placeY) {
                    return true;
                }
            }
            return false;
        }
    }

    /** Looks a RIM's names up. */
    private static final class Rim {
        /** How many names the last search came by. */
        int found;

        /** The wanted name; NONE if there is none, and then all of them are found. */
        int find(Tape tape, Disc[] shelves, int wear, int wanted) {
            found = 0;
            for (int k = 0; k < SHELVES; k++) {
                for (int way = 1; way >= -1; way -= 2) {
                    for (int a = 0; a < shelves[k].stitches; a++) {
                        if (isNamed(tape, shelves[k], a, way, wear)) {
                            if (found == wanted) {
                                return 1000 * k + (way < 0 ? 100 : 0) + a;
                            }
                            found++;
                        }
                    }
                }
            }
            return NONE;
        }

        private static boolean isNamed(Tape tape, Disc disc, int start, int way, int wear) {
            int j = start;
            for (int i = 0; i < tape.length; i++) {
                int reading = (int) tape.row[i];
                int swing = disc.swings[j];
                if (reading != MISSING && (reading < swing - wear || reading > swing)) {
                    return false;
                }
                j += way;
                if (j < 0) {
                    j = disc.stitches - 1;
                } else if (j >= disc.stitches) {
                    j = 0;
                }
            }
            return true;
        }
    }

    /**
     * NOTES, and the STATES LEFT that were gathered last. STATES that differ in PULL alone are kept together as a
     * KIND (their number by 11) with a bit for each PULL, as a TRIAL tells them apart by its CLOTH alone.
     */
    private static final class Faults {
        private static final int KINDS = 252, PULLS = 11, ALL_PULLS = 2047, NO_PULL = 1 << 5;
        private static final int GOOD = 0, SKIPPED = 1, BELOW = 2, ABOVE = 3, BROKEN = 4;
        private static final int MOST_HUNTED = 20, NO_TRIAL = -2;

        final int[] trials = new int[MOST_NOTES];
        final int[] outcomes = new int[MOST_NOTES];
        int notes;
        /** How many STATES are LEFT. */
        int size;
        /** The last TRIAL of the last HUNT. */
        int lastTrial;
        /** The kinds of which a STATE is LEFT, in order, and the PULLS that are LEFT of each. */
        private final int[] kinds = new int[KINDS];
        private final int[] pulls = new int[KINDS];
        private int kindsLeft;

        static int outcomeOf(int state, int trial) {
            int kind = state / PULLS;
            int pull = 1 << state % PULLS;
            for (int outcome = GOOD; outcome < BROKEN; outcome++) {
                if ((pullsWith(kind, trial, outcome) & pull) != 0) {
                    return outcome;
                }
            }
            return BROKEN;
        }

        private static int timingOf(int kind) {
            return kind / 28 - 4;
        }

        private static int bentOf(int kind) {
            return kind / 4 % 7 - 3;
        }

        private static int wornOf(int kind) {
            return kind % 4;
        }

        private static int speedOf(int trial) {
            return trial / 65 + 1;
        }

        private static int clothOf(int trial) {
            return trial / 13 % 5 + 1;
        }

        private static int swingOf(int trial) {
            return trial % 13 - 6;
        }

        private static boolean skips(int kind, int speed, int swing) {
            return Math.abs(2 * timingOf(kind) + bentOf(kind) * swing) > 9 - wornOf(kind) - speed;
        }

        private static boolean breaks(int kind, int speed, int swing) {
            return Math.abs(bentOf(kind)) == 3 && speed >= 4 && Math.abs(swing) >= 4;
        }

        /** The PULLS by which the upper thread loops above. */
        private static int pullsAbove(int cloth) {
            int above = 0;
            for (int p = 0; p < PULLS; p++) {
                if (10 * (p - 5) > 6 * cloth) {
                    above |= 1 << p;
                }
            }
            return above;
        }

        private static int pullsBelow(int cloth) {
            int below = 0;
            for (int p = 0; p < PULLS; p++) {
                if (10 * (p - 5) < -6 * cloth) {
                    below |= 1 << p;
                }
            }
            return below;
        }

        /** The PULLS with which a kind has an OUTCOME by a TRIAL. */
        private static int pullsWith(int kind, int trial, int outcome) {
            int speed = speedOf(trial);
            int swing = swingOf(trial);
            if (skips(kind, speed, swing)) {
                return outcome == SKIPPED ? ALL_PULLS : 0;
            }
            int above = pullsAbove(clothOf(trial));
            int below = pullsBelow(clothOf(trial));
            switch (outcome) {
                case ABOVE:
                    return above;
                case BELOW:
                    return below;
                case GOOD:
                    return breaks(kind, speed, swing) ? 0 : ALL_PULLS & ~above & ~below;
                case BROKEN:
                    return breaks(kind, speed, swing) ? ALL_PULLS & ~above & ~below : 0;
                default:
                    return 0;
            }
        }

        private static int causesOf(int kind) {
            int causes = timingOf(kind) != 0 ? 1 : 0;
            causes += bentOf(kind) != 0 ? 1 : 0;
            return causes + (wornOf(kind) != 0 ? 1 : 0);
        }

        /** Gathers the STATES with at most m CAUSES. */
        private void gather(int m) {
            kindsLeft = 0;
            size = 0;
            for (int kind = 0; kind < KINDS; kind++) {
                int causes = causesOf(kind);
                if (causes <= m) {
                    keepKind(kind, causes < m ? ALL_PULLS : NO_PULL);
                }
            }
        }

        private void keepKind(int kind, int itsPulls) {
            if (itsPulls != 0 && kindsLeft < KINDS) {
                kinds[kindsLeft] = kind;
                pulls[kindsLeft] = itsPulls;
                kindsLeft++;
                size += Integer.bitCount(itsPulls);
            }
        }

        /** Of the STATES LEFT, those stay that have this OUTCOME. */
        private void narrow(int trial, int outcome) {
            int before = kindsLeft;
            kindsLeft = 0;
            size = 0;
            for (int i = 0; i < before; i++) {
                keepKind(kinds[i], pulls[i] & pullsWith(kinds[i], trial, outcome));
            }
        }

        /** Gathers the STATES LEFT for m by the NOTES. */
        void gatherNoted(int m) {
            gather(m);
            for (int i = 0; i < notes; i++) {
                narrow(trials[i], outcomes[i]);
            }
        }

        /** The i-th STATE LEFT, or NONE. */
        int numberOf(int i) {
            int passed = 0;
            for (int k = 0; k < kindsLeft; k++) {
                for (int p = 0; p < PULLS; p++) {
                    if ((pulls[k] & 1 << p) != 0) {
                        if (passed == i) {
                            return kinds[k] * PULLS + p;
                        }
                        passed++;
                    }
                }
            }
            return NONE;
        }

        boolean holds(int state) {
            for (int k = 0; k < kindsLeft; k++) {
                if (kinds[k] == state / PULLS) {
                    return (pulls[k] & 1 << state % PULLS) != 0;
                }
            }
            return false;
        }

        int greatestShare(int trial) {
            int speed = speedOf(trial);
            int swing = swingOf(trial);
            int abovePulls = pullsAbove(clothOf(trial));
            int belowPulls = pullsBelow(clothOf(trial));
            int middlePulls = ALL_PULLS & ~abovePulls & ~belowPulls;
            int skipped = 0;
            int above = 0;
            int below = 0;
            int broken = 0;
            int good = 0;
            for (int k = 0; k < kindsLeft; k++) {
                if (skips(kinds[k], speed, swing)) {
                    skipped += Integer.bitCount(pulls[k]);
                    continue;
                }
                above += Integer.bitCount(pulls[k] & abovePulls);
                below += Integer.bitCount(pulls[k] & belowPulls);
                int middle = Integer.bitCount(pulls[k] & middlePulls);
                if (breaks(kinds[k], speed, swing)) {
                    broken += middle;
                } else {
                    good += middle;
                }
            }
            return Math.max(Math.max(skipped, Math.max(above, below)), Math.max(broken, good));
        }

        /** The BEST TRIAL, or UNABLE if it doesn't part the STATES LEFT. */
        int partingTrial() {
            int best = UNABLE;
            int least = size;
            for (int trial = 0; trial < TRIALS; trial++) {
                int share = greatestShare(trial);
                if (share < least) {
                    least = share;
                    best = trial;
                }
            }
            return best;
        }

        /** Makes a HUNT and answers how many TRIALS it took; the STATES LEFT at its end stay gathered. */
        int hunted(int state, int m) {
            gather(m);
            lastTrial = NO_TRIAL;
            for (int made = 0; made < MOST_HUNTED; made++) {
                int trial = partingTrial();
                if (trial == UNABLE) {
                    return made;
                }
                narrow(trial, outcomeOf(state, trial));
                lastTrial = trial;
            }
            return MOST_HUNTED;
        }
    }

    /** A TAPE; a row's elements are kept as longs that were narrowed to its sort. */
    private static final class Tape {
        final long[] row = new long[LONGEST_ROW];
        final Disc disc = new Disc();
        int sort;
        int length;

        void becomeRow(int newSort, int n) {
            sort = newSort;
            length = n;
            Arrays.fill(row, 0L);
        }

        void becomeDisc(Disc other) {
            sort = ONE_DISC;
            disc.become(other);
        }

        boolean isRow() {
            return sort >= BYTES && sort <= LONGS;
        }

        /** Whether n places from i on are in the row. */
        boolean hasPlaces(int i, int n) {
            return i >= 0 && n >= 0 && i <= length - n;
        }

        long narrowed(long v) {
            switch (sort) {
                case BYTES: return (byte) v;
                case SHORTS: return (short) v;
                case INTS: return (int) v;
                default: return v;
            }
        }
    }
}
