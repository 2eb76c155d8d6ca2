import java.util.ArrayList;
import java.util.Arrays;
import java.util.HashSet;
import java.util.List;
import java.util.Set;

/** The document told once more, as plainly as can be and without care for speed or room, to compare with. */
public final class Model {
    private static final int NONE = -1, FULL = -2, BARE = -3, UNABLE = -4, HOLDS = 9999;
    private static final int NOTHING = -11, CAST = -12, PLACE = -13, SIZE = -14, THROWN = -15;

    private static final byte[][] OUTCOMES = outcomes();

    /** A row on a tape; a disc there is a list of stitches. */
    private static final class Row {
        final int sort;
        final long[] elements;

        Row(int sort, int n) {
            this.sort = sort;
            elements = new long[n];
        }
    }

    private static final class Fault extends RuntimeException {
        private static final long serialVersionUID = 1;
        final int place;

        Fault(int place) {
            this.place = place;
        }
    }

    private static final class Told {
        final List<int[]> points = new ArrayList<>();
        Integer advance;
        int x, y;
        boolean mirrored;
    }

    private static final class Sewn {
        final List<int[]> ends = new ArrayList<>();
        int x, y, quarter, why, upper, lower, ended;
        boolean back;
    }

    private Told pattern;
    private List<int[]> work;
    private final List<List<int[]>> shelves = new ArrayList<>();
    private final List<Integer> sides = new ArrayList<>();
    private final List<int[]> job = new ArrayList<>();
    private final List<int[]> notes = new ArrayList<>();
    private final Object[] tapes = new Object[6];
    private Sewn seam;
    private int thick0, thick1, upper, lower, spool, bobbin;
    private int refusals;

    public Model() {
        begin();
    }

    public int begin() {
        pattern = null;
        work = null;
        seam = null;
        shelves.clear();
        for (int k = 0; k < 8; k++) {
            shelves.add(null);
        }
        sides.clear();
        job.clear();
        notes.clear();
        thick0 = 4;
        thick1 = 0;
        upper = 20;
        lower = 20;
        spool = 100000;
        bobbin = 5000;
        refusals = 0;
        return 0;
    }

    private int host(int refusal) {
        refusals++;
        return refusal;
    }

    private static int floor(int a, int b) {
        return (int) Math.floor((double) a / b);
    }

    // ---- I

    public int read(int d) {
        if (d < 0 || d > 5) {
            return NONE;
        }
        if (tapes[d] == null) {
            return host(NOTHING);
        }
        if (!(tapes[d] instanceof Row r) || r.sort != 1) {
            return host(CAST);
        }
        Told told = new Told();
        try {
            tell(told, r.elements, 0, 0);
        } catch (Fault f) {
            return -100 - f.place;
        }
        pattern = told;
        return told.points.size();
    }

    /** From a place on to the 0, or behind the 5 that ends what stands there. */
    private int tell(Told t, long[] row, int from, int depth) {
        int place = from;
        while (place < row.length) {
            long order = row[place];
            int numbers = order == 1 || order == 2 ? 2 : order == 4 || order == 6 ? 1 : 0;
            if (order < 0 || order > 6 || place + numbers > row.length - 1) {
                throw new Fault(place);
            }
            int a = numbers > 0 ? (int) row[place + 1] : 0;
            int b = numbers > 1 ? (int) row[place + 2] : 0;
            int ax = t.mirrored ? -a : a;
            boolean done = true;
            int behind = place + 1 + numbers;
            if (order == 0) {
                if (depth > 0 || t.points.isEmpty() || t.advance == null) {
                    throw new Fault(place);
                }
                return place;
            } else if (order == 1) {
                int[] p = {t.x + ax, t.y + b};
                done = Math.abs(p[0]) <= 12 && Math.abs(p[1]) <= 100 && t.points.size() < 24;
                t.points.add(p);
            } else if (order == 2) {
                t.x += ax;
                t.y += b;
                done = Math.max(Math.abs(t.x), Math.abs(t.y)) <= 100;
            } else if (order == 3) {
                t.mirrored = !t.mirrored;
            } else if (order == 4) {
                if (a < 1 || a > 9 || depth == 3) {
                    throw new Fault(place);
                }
                int end = 0;
                for (int i = 0; i < a; i++) {
                    end = tell(t, row, behind, depth + 1);
                }
                behind = end;
            } else if (order == 5) {
                if (depth == 0) {
                    throw new Fault(place);
                }
                return behind;
            } else {
                t.advance = a;
                done = Math.abs(a) <= 100;
            }
            if (!done) {
                throw new Fault(place);
            }
            place = behind;
        }
        throw new Fault(row.length);
    }

    public int point(int k, int what) {
        if (what != 0 && what != 1) {
            throw new IllegalArgumentException();
        }
        if (pattern == null || k < 0 || k >= pattern.points.size()) {
            throw new IllegalStateException();
        }
        return pattern.points.get(k)[what];
    }

    public int advance() {
        if (pattern == null) {
            throw new IllegalStateException();
        }
        return pattern.advance;
    }

    public int make(int s, int f) {
        if (s < 1 || s > 12 || f < 1 || f > 12) {
            return NONE;
        }
        if (pattern == null) {
            return BARE;
        }
        List<int[]> ps = new ArrayList<>(pattern.points);
        ps.add(new int[] {ps.get(0)[0], ps.get(0)[1] + pattern.advance});
        List<int[]> disc = new ArrayList<>();
        for (int k = 0; k + 1 < ps.size(); k++) {
            int dx = ps.get(k + 1)[0] - ps.get(k)[0];
            int dy = ps.get(k + 1)[1] - ps.get(k)[1];
            int n = 1;
            while (n * s < Math.abs(dx) || n * f < Math.abs(dy)) {
                n++;
            }
            for (int i = 1; i <= n; i++) {
                disc.add(new int[] {ps.get(k)[0] + floor(dx * i, n), floor(dy * i, n) - floor(dy * (i - 1), n)});
            }
        }
        if (disc.size() > 48) {
            return FULL;
        }
        work = disc;
        return disc.size();
    }

    private static int length(List<int[]> disc) {
        return disc == null ? 0 : disc.stream().mapToInt(s -> s[1]).sum();
    }

    private static int steep(List<int[]> disc) {
        int steep = 0;
        for (int j = 0; j < disc.size(); j++) {
            steep = Math.max(steep, Math.abs(disc.get((j + 1) % disc.size())[0] - disc.get(j)[0]));
        }
        return steep;
    }

    public int disc(int what) {
        if (what < 0 || what > 6) {
            throw new IllegalArgumentException();
        }
        if (work == null) {
            throw new IllegalStateException();
        }
        int[] swings = work.stream().mapToInt(s -> s[0]).sorted().toArray();
        int[] feeds = work.stream().mapToInt(s -> s[1]).sorted().toArray();
        int n = work.size();
        return new int[] {n, length(work), steep(work), swings[n - 1], swings[0], feeds[n - 1], feeds[0]}[what];
    }

    public int stitch(int j, int what) {
        if (what != 0 && what != 1) {
            throw new IllegalArgumentException();
        }
        if (work == null || j < 0 || j >= work.size()) {
            throw new IllegalStateException();
        }
        return work.get(j)[what];
    }

    public int file(int j, int swing, int feed) {
        if (work == null || j < 0 || j >= work.size() || Math.abs((long) swing) > 12 || Math.abs((long) feed) > 12) {
            return NONE;
        }
        work = new ArrayList<>(work);
        work.set(j, new int[] {swing, feed});
        return 1;
    }

    public int makes() {
        if (pattern == null || work == null) {
            return BARE;
        }
        int n = work.size();
        int[] ys = new int[n];
        int y = pattern.points.get(0)[1];
        for (int j = 0; j < n; j++) {
            y += work.get(j)[1];
            ys[j] = y;
        }
        int j = 0;
        for (int k = 1; k < pattern.points.size(); k++) {
            int[] p = pattern.points.get(k);
            while (j < n && (work.get(j)[0] != p[0] || ys[j] != p[1])) {
                j++;
            }
            if (j == n) {
                return k;
            }
            j++;
        }
        if (j == n) {
            return pattern.points.size();
        }
        int[] p = pattern.points.get(0);
        return work.get(n - 1)[0] == p[0] && ys[n - 1] == p[1] + pattern.advance ? HOLDS : pattern.points.size();
    }

    public int lay(int shelf) {
        if (shelf < 0 || shelf > 7) {
            return NONE;
        }
        if (work == null) {
            return BARE;
        }
        shelves.set(shelf, work);
        return work.size();
    }

    public int take(int shelf) {
        if (shelf < 0 || shelf > 7) {
            return NONE;
        }
        if (shelves.get(shelf) == null) {
            return BARE;
        }
        work = shelves.get(shelf);
        return work.size();
    }

    public int turn(int j, int mirror) {
        if (work == null || j < 0 || j >= work.size() || mirror < 0 || mirror > 1) {
            return NONE;
        }
        List<int[]> turned = new ArrayList<>(work.subList(j, work.size()));
        turned.addAll(work.subList(0, j));
        if (mirror == 1) {
            turned.replaceAll(s -> new int[] {-s[0], s[1]});
        }
        work = turned;
        return 1;
    }

    // ---- II

    public int side(int length) {
        if (length < 1 || length > 999) {
            return NONE;
        }
        if (sides.size() == 8) {
            return FULL;
        }
        sides.add(length);
        return sides.size();
    }

    public int sideless() {
        int had = sides.size();
        sides.clear();
        return had;
    }

    private boolean hasHem(int i) {
        return i >= 0 && i < sides.size() && length(work) > 0;
    }

    private int rounds(int i) {
        int best = 1;
        for (int r = 2; r <= 1000; r++) {
            if (Math.abs(sides.get(i) - r * length(work)) < Math.abs(sides.get(i) - best * length(work))) {
                best = r;
            }
        }
        return best;
    }

    /** The feeds of a side. */
    private int[] fedAll(int i) {
        int r = rounds(i);
        int rest = sides.get(i) - r * length(work);
        int[] all = new int[r * work.size()];
        for (int j = 0; j < all.length; j++) {
            all[j] = work.get(j % work.size())[1] + floor(rest * (j + 1), all.length) - floor(rest * j, all.length);
        }
        return all;
    }

    private int change(int i) {
        int change = 0;
        int[] all = fedAll(i);
        for (int j = 0; j < all.length; j++) {
            change = Math.max(change, Math.abs(all[j] - work.get(j % work.size())[1]));
        }
        return change;
    }

    private boolean fits(int i) {
        return Arrays.stream(fedAll(i)).allMatch(f -> f >= -12 && f <= 12);
    }

    public int hem(int i, int what) {
        if (what < 0 || what > 4) {
            throw new IllegalArgumentException();
        }
        if (!hasHem(i)) {
            throw new IllegalStateException();
        }
        switch (what) {
            case 0: return rounds(i);
            case 1: return sides.get(i) - rounds(i) * length(work);
            case 2: return fits(i) ? 1 : 0;
            case 3: return fedAll(i).length;
            default: return change(i);
        }
    }

    public int fed(int i, int j) {
        if (!hasHem(i) || j < 0 || j >= fedAll(i).length) {
            throw new IllegalStateException();
        }
        return fedAll(i)[j];
    }

    public int meets() {
        if (!hasHem(0)) {
            return BARE;
        }
        int meets = 1;
        for (int i = 0; i < sides.size(); i++) {
            meets = fits(i) ? meets : 0;
        }
        return meets;
    }

    public int feeds(int d, int i) {
        if (d < 0 || d > 5) {
            return NONE;
        }
        if (!hasHem(i)) {
            return BARE;
        }
        int[] all = fedAll(i);
        if (all.length > 400) {
            return FULL;
        }
        Row r = new Row(2, all.length);
        for (int j = 0; j < all.length; j++) {
            r.elements[j] = all[j];
        }
        tapes[d] = r;
        return all.length;
    }

    public int judge(int d, int i) {
        if (d < 0 || d > 5) {
            return NONE;
        }
        if (!hasHem(i)) {
            return BARE;
        }
        if (tapes[d] == null) {
            return host(NOTHING);
        }
        if (!(tapes[d] instanceof Row r) || r.sort != 2) {
            return host(CAST);
        }
        int n = fedAll(i).length;
        int change = change(i);
        long sum = 0;
        for (int j = 0; j < Math.min(n, r.elements.length); j++) {
            long v = r.elements[j];
            if (v < -12 || v > 12 || Math.abs(v - work.get(j % work.size())[1]) > change) {
                return j;
            }
            sum += v;
        }
        if (r.elements.length < n) {
            return host(PLACE);
        }
        return sum == sides.get(i) ? HOLDS : n;
    }

    // ---- III

    public int cloth(int which, int thick) {
        if (which < 0 || which > 1 || thick < 0 || thick > 60) {
            return NONE;
        }
        int had = which == 0 ? thick0 : thick1;
        if (which == 0) {
            thick0 = thick;
        } else {
            thick1 = thick;
        }
        return had;
    }

    public int tensions(int u, int l) {
        if (u < 1 || u > 99 || l < 1 || l > 99) {
            return NONE;
        }
        upper = u;
        lower = l;
        return depth(u, l);
    }

    private int depth(int u, int l) {
        return (thick0 + thick1) * l / (u + l);
    }

    private int lies(int lock) {
        if (lock > 0 && lock < thick0) {
            return 0;
        }
        if (lock > thick0 && lock < thick0 + thick1) {
            return 1;
        }
        return lock == 0 ? 2 : lock == thick0 + thick1 ? 3 : 4;
    }

    public int lock() {
        return lies(depth(upper, lower));
    }

    public int tune(int which) {
        if (which < 0 || which > 1) {
            return NONE;
        }
        int best = UNABLE;
        for (int u = 1; u <= 99; u++) {
            for (int l = 1; l <= 99; l++) {
                if (lies(depth(u, l)) == which && (best < 0 || u + l < best / 100 + best % 100)) {
                    best = 100 * u + l;
                }
            }
        }
        return best;
    }

    public int wind(int s, int b) {
        if (s < 0 || s > 1000000 || b < 0 || b > 1000000) {
            return NONE;
        }
        spool = s;
        bobbin = b;
        return 0;
    }

    public int step(int kind, int n) {
        int[] least = {0, 1, 1, 0};
        int[] most = {7, 200, 3, 0};
        if (kind < 0 || kind > 3 || n < least[kind] || n > most[kind]) {
            return NONE;
        }
        if (job.size() == 20) {
            return FULL;
        }
        job.add(new int[] {kind, n});
        return job.size();
    }

    public int stepless() {
        int had = job.size();
        job.clear();
        return had;
    }

    public int sew() {
        seam = new Sewn();
        int next = 0;
        int needle = work == null ? 0 : work.get(work.size() - 1)[0];
        int lock = depth(upper, lower);
        for (int[] s : job) {
            if (s[0] == 0) {
                if (shelves.get(s[1]) == null) {
                    seam.why = 4;
                    return seam.ends.size();
                }
                work = shelves.get(s[1]);
                next = 0;
            } else if (s[0] == 2) {
                seam.quarter = (seam.quarter + s[1]) % 4;
            } else if (s[0] == 3) {
                seam.back = !seam.back;
            }
            for (int i = 0; s[0] == 1 && i < s[1]; i++) {
                if (work == null) {
                    seam.why = 4;
                    return 0;
                }
                if (seam.ends.size() == 600) {
                    seam.why = 3;
                    return 600;
                }
                int[] st = work.get(next % work.size());
                int dx = st[0] - needle;
                int dy = seam.back ? -st[1] : st[1];
                int up = Math.abs(dx) + Math.abs(dy) + 2 * lock;
                int low = Math.abs(dx) + Math.abs(dy) + 2 * (thick0 + thick1 - lock);
                if (up > spool || low > bobbin) {
                    seam.why = up > spool ? 1 : 2;
                    return seam.ends.size();
                }
                spool -= up;
                bobbin -= low;
                seam.upper += up;
                seam.lower += low;
                needle = st[0];
                next++;
                int[][] turned = {{dx, dy}, {-dy, dx}, {-dx, -dy}, {dy, -dx}};
                seam.x += turned[seam.quarter][0];
                seam.y += turned[seam.quarter][1];
                seam.ends.add(new int[] {seam.x, seam.y});
            }
            seam.ended++;
        }
        return seam.ends.size();
    }

    private int returns() {
        Set<String> been = new HashSet<>();
        been.add("0 0");
        int many = 0;
        for (int[] e : seam.ends) {
            many += been.add(e[0] + " " + e[1]) ? 0 : 1;
        }
        return many;
    }

    public int seam(int what) {
        if (what < 0 || what > 9) {
            throw new IllegalArgumentException();
        }
        if (seam == null) {
            throw new IllegalStateException();
        }
        return new int[] {seam.ends.size(), seam.x, seam.y, seam.quarter, seam.back ? 1 : 0, seam.why, returns(),
            seam.upper, seam.lower, seam.ended}[what];
    }

    public int sewn(int i, int what) {
        if (what != 0 && what != 1) {
            throw new IllegalArgumentException();
        }
        if (seam == null || i < 0 || i >= seam.ends.size()) {
            throw new IllegalStateException();
        }
        return seam.ends.get(i)[what];
    }

    public int thread(int which) {
        return which == 0 ? spool : which == 1 ? bobbin : NONE;
    }

    // ---- IV

    /** What speaks against a rim, or 0. */
    private int againstRim(int d, int wear) {
        if (d < 0 || d > 5 || wear < 0 || wear > 6) {
            return NONE;
        }
        if (tapes[d] == null) {
            return host(NOTHING);
        }
        if (!(tapes[d] instanceof Row r) || r.sort != 1) {
            return host(CAST);
        }
        return r.elements.length == 0 || r.elements.length > 48 ? UNABLE : 0;
    }

    private List<Integer> named(int d, int wear) {
        long[] rim = ((Row) tapes[d]).elements;
        List<Integer> names = new ArrayList<>();
        for (int k = 0; k < 8; k++) {
            int n = shelves.get(k) == null ? 0 : shelves.get(k).size();
            for (int way : new int[] {1, -1}) {
                for (int a = 0; a < n; a++) {
                    boolean is = true;
                    for (int i = 0; i < rim.length; i++) {
                        int w = shelves.get(k).get(Math.floorMod(a + way * i, n))[0];
                        is &= rim[i] == -128 || rim[i] >= w - wear && rim[i] <= w;
                    }
                    if (is) {
                        names.add(1000 * k + (way == -1 ? 100 : 0) + a);
                    }
                }
            }
        }
        return names;
    }

    public int names(int d, int wear) {
        int against = againstRim(d, wear);
        return against != 0 ? against : named(d, wear).size();
    }

    public int name(int d, int wear, int i) {
        if (i < 0) {
            return NONE;
        }
        int against = againstRim(d, wear);
        if (against != 0) {
            return against;
        }
        List<Integer> names = named(d, wear);
        return i >= 0 && i < names.size() ? names.get(i) : NONE;
    }

    public int wear(int d) {
        int against = againstRim(d, 6);
        if (against != 0) {
            return against;
        }
        for (int w = 0; w <= 6; w++) {
            if (!named(d, w).isEmpty()) {
                return w;
            }
        }
        return UNABLE;
    }

    // ---- V

    private static int[] told(int state) {
        return new int[] {state / 44 / 7 - 4, state / 44 % 7 - 3, state % 44 / 11, state % 11 - 5};
    }

    private static byte[][] outcomes() {
        byte[][] all = new byte[2772][325];
        for (int state = 0; state < 2772; state++) {
            int[] s = told(state);
            for (int trial = 0; trial < 325; trial++) {
                int speed = trial / 13 / 5 + 1;
                int cloth = trial / 13 % 5 + 1;
                int swing = trial % 13 - 6;
                byte is = 0;
                if (Math.abs(2 * s[0] + s[1] * swing) > 9 - s[2] - speed) {
                    is = 1;
                } else if (10 * s[3] > 6 * cloth) {
                    is = 3;
                } else if (10 * s[3] < -6 * cloth) {
                    is = 2;
                } else if (Math.abs(s[1]) == 3 && speed >= 4 && Math.abs(swing) >= 4) {
                    is = 4;
                }
                all[state][trial] = is;
            }
        }
        return all;
    }

    public int outcome(int state, int trial) {
        return state < 0 || state > 2771 || trial < 0 || trial > 324 ? NONE : OUTCOMES[state][trial];
    }

    public int note(int trial, int outcome) {
        if (trial < 0 || trial > 324 || outcome < 0 || outcome > 4) {
            return NONE;
        }
        if (notes.size() == 24) {
            return FULL;
        }
        notes.add(new int[] {trial, outcome});
        return notes.size();
    }

    public int noteless() {
        int had = notes.size();
        notes.clear();
        return had;
    }

    private static List<Integer> leftBy(int m, List<int[]> noted) {
        List<Integer> left = new ArrayList<>();
        for (int state = 0; state < 2772; state++) {
            boolean is = Arrays.stream(told(state)).filter(c -> c != 0).count() <= m;
            for (int[] n : noted) {
                is &= OUTCOMES[state][n[0]] == n[1];
            }
            if (is) {
                left.add(state);
            }
        }
        return left;
    }

    private static int shareOf(List<Integer> left, int trial) {
        int[] shares = new int[5];
        for (int state : left) {
            shares[OUTCOMES[state][trial]]++;
        }
        return Arrays.stream(shares).max().getAsInt();
    }

    private static int bestOf(List<Integer> left) {
        int best = 0;
        for (int trial = 1; trial < 325; trial++) {
            if (shareOf(left, trial) < shareOf(left, best)) {
                best = trial;
            }
        }
        return left.size() < 2 || shareOf(left, best) == left.size() ? UNABLE : best;
    }

    private static boolean isM(int m) {
        return m >= 0 && m <= 4;
    }

    public int left(int m) {
        return isM(m) ? leftBy(m, notes).size() : NONE;
    }

    public int state(int m, int i) {
        return isM(m) && i >= 0 && i < leftBy(m, notes).size() ? leftBy(m, notes).get(i) : NONE;
    }

    public int best(int m) {
        return isM(m) ? bestOf(leftBy(m, notes)) : NONE;
    }

    public int share(int m, int trial) {
        return isM(m) && trial >= 0 && trial <= 324 ? shareOf(leftBy(m, notes), trial) : NONE;
    }

    public int hunt(int state, int m, int what) {
        if (state < 0 || state > 2771 || !isM(m) || what < 0 || what > 3) {
            return NONE;
        }
        List<int[]> made = new ArrayList<>();
        int best = bestOf(leftBy(m, made));
        while (best != UNABLE && made.size() < 20) {
            made.add(new int[] {best, OUTCOMES[state][best]});
            best = bestOf(leftBy(m, made));
        }
        List<Integer> left = leftBy(m, made);
        int last = made.isEmpty() ? -2 : made.get(made.size() - 1)[0];
        return what == 0 ? made.size() : what == 1 ? left.size() : what == 2 ? left.contains(state) ? 1 : 0 : last;
    }

    // ---- VI

    public int tape(int d, int sort, int n) {
        if (d < 0 || d > 5 || sort < 1 || sort > 4 || n > 400) {
            return NONE;
        }
        if (n < 0) {
            return host(SIZE);
        }
        tapes[d] = new Row(sort, n);
        return n;
    }

    public int keep(int d) {
        if (d < 0 || d > 5) {
            return NONE;
        }
        if (work == null) {
            return BARE;
        }
        tapes[d] = work;
        return work.size();
    }

    @SuppressWarnings("unchecked")
    private List<int[]> discOn(int d) {
        return (List<int[]>) tapes[d];
    }

    public int back(int d) {
        if (d < 0 || d > 5) {
            return NONE;
        }
        if (tapes[d] == null) {
            return host(NOTHING);
        }
        if (tapes[d] instanceof Row) {
            return host(CAST);
        }
        work = discOn(d);
        return work.size();
    }

    public int toss(int d) {
        if (d < 0 || d > 5) {
            return NONE;
        }
        if (tapes[d] == null) {
            return host(NOTHING);
        }
        if (tapes[d] instanceof Row) {
            return host(CAST);
        }
        return steep(discOn(d)) == 0 ? host(THROWN) : steep(discOn(d));
    }

    public int clear(int d) {
        if (d < 0 || d > 5) {
            return NONE;
        }
        int held = tapes[d] == null ? 0 : tapes[d] instanceof Row r ? r.sort : 5;
        tapes[d] = null;
        return held;
    }

    public int put(int d, int i, long v) {
        if (d < 0 || d > 5) {
            return NONE;
        }
        if (tapes[d] == null) {
            return host(NOTHING);
        }
        if (!(tapes[d] instanceof Row r)) {
            return host(CAST);
        }
        if (i < 0 || i >= r.elements.length) {
            return host(PLACE);
        }
        r.elements[i] = r.sort == 1 ? (byte) v : r.sort == 2 ? (short) v : r.sort == 3 ? (int) v : v;
        return 1;
    }

    public long at(int d, int i) {
        if (d < 0 || d > 5) {
            throw new IllegalArgumentException();
        }
        if (!(tapes[d] instanceof Row r) || i < 0 || i >= r.elements.length) {
            throw new IllegalStateException();
        }
        return r.elements[i];
    }

    public int copy(int d, int i, int e, int j, int n) {
        if (d < 0 || d > 5 || e < 0 || e > 5) {
            return NONE;
        }
        if (tapes[d] == null || tapes[e] == null) {
            return host(NOTHING);
        }
        if (!(tapes[d] instanceof Row a) || !(tapes[e] instanceof Row b) || a.sort != b.sort) {
            return host(CAST);
        }
        if (n < 0 || i < 0 || j < 0 || (long) i + n > a.elements.length || (long) j + n > b.elements.length) {
            return host(PLACE);
        }
        long[] were = a.elements.clone();
        for (int k = 0; k < n; k++) {
            b.elements[j + k] = were[i + k];
        }
        return n;
    }

    public int count(int what) {
        int discs = (int) shelves.stream().filter(s -> s != null).count();
        int[] counts = {pattern == null ? 0 : pattern.points.size(), discs, sides.size(), job.size(), notes.size(), refusals};
        return what < 0 || what > 5 ? NONE : counts[what];
    }
}
