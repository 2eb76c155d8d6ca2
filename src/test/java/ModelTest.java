import java.lang.reflect.InvocationTargetException;
import java.lang.reflect.Method;
import java.util.Arrays;
import java.util.Comparator;
import java.util.HashMap;
import java.util.Map;
import java.util.Random;

/** Runs of 512 calls on new objects, each answer compared with the Model's; any other exception is a fault, too. */
public final class ModelTest {
    private static final int RUNS = 400, CALLS = 512;
    private static final int[] EDGES = {Integer.MIN_VALUE, -129, -128, -13, -1, 0, 1, 4, 5, 6, 7, 8, 12, 13, 24, 47, 48,
        60, 61, 99, 100, 101, 200, 201, 324, 325, 399, 400, 401, 600, 999, 1000, 2771, 2772, 1000000, 1000001,
        Integer.MAX_VALUE};

    private final Random random;
    private final CamStitch program = new CamStitch();
    private final Model model = new Model();
    private final Map<String, Integer> answered;
    private int calls = 0;
    private boolean differs = false;
    private final StringBuilder told = new StringBuilder();

    private static Method[] face;
    private static final Map<String, Method> PROGRAM = new HashMap<>();
    private static final Map<String, Method> MODEL = new HashMap<>();

    private ModelTest(long seed, Map<String, Integer> answered) {
        random = new Random(seed);
        this.answered = answered;
    }

    public static void main(String[] args) {
        int runs = args.length > 0 ? Integer.parseInt(args[0]) : RUNS;
        long first = args.length > 1 ? Long.parseLong(args[1]) : 1;
        face = Arrays.stream(CamStitch.class.getMethods()).filter(m -> m.getDeclaringClass() == CamStitch.class)
            .sorted(Comparator.comparing(Method::getName)).toArray(Method[]::new);
        for (Method m : face) {
            PROGRAM.put(m.getName(), m);
        }
        for (Method m : Model.class.getMethods()) {
            MODEL.put(m.getName(), m);
        }
        Map<String, Integer> answered = new HashMap<>();
        for (int r = 0; r < runs; r++) {
            ModelTest run = new ModelTest(first + r, answered);
            run.run();
            Due.same("run " + (first + r) + " differs", run.differs, false);
        }
        if (args.length > 2) {
            answered.keySet().stream().sorted().forEach(k -> System.out.println(k + " " + answered.get(k)));
        }
        Due.same("each method has answered", answered.keySet().stream().map(k -> k.split(" ")[0]).distinct().count(), 50L);
        Due.end("ModelTest");
    }

    private void run() {
        while (calls < CALLS && !differs) {
            switch (random.nextInt(15)) {
                case 0: patternOnTape(); break;
                case 1: discs(); break;
                case 2: hems(); break;
                case 3: sews(); break;
                case 4: rims(); break;
                case 5: faults(); break;
                case 6: tapes(); break;
                case 7: judges(); break;
                case 8: looks(); break;
                case 9: exactPattern(); break;
                case 10: patternOfDisc(); break;
                default: anything(); break;
            }
        }
    }

    private int pick(int... of) {
        return of[random.nextInt(of.length)];
    }

    private int from(int least, int most) {
        return least + random.nextInt(most - least + 1);
    }

    /** Mostly as said, now and then just beyond. */
    private int near(int least, int most) {
        return random.nextInt(8) == 0 ? pick(least - 1, most + 1, least, most) : from(least, most);
    }

    private long both(String name, long... a) {
        if (calls >= CALLS || differs) {
            return 0;
        }
        calls++;
        String got = answer(PROGRAM.get(name), program, a);
        String want = answer(MODEL.get(name), model, a);
        told.append(name).append(Arrays.toString(a)).append(" = ").append(got).append('\n');
        answered.merge(name + " " + (got.startsWith("-") || got.startsWith("I") ? got.startsWith("-1") && got.length() > 4 ? "-1xx" : got : "+"), 1, Integer::sum);
        if (!got.equals(want)) {
            differs = true;
            System.out.println(told);
            System.out.println("due is " + want);
        }
        return want.startsWith("I") ? 0 : Long.parseLong(want);
    }

    private static String answer(Method m, Object on, long... a) {
        Object[] given = new Object[a.length];
        for (int i = 0; i < a.length; i++) {
            given[i] = m.getParameterTypes()[i] == long.class ? (Object) a[i] : (Object) (int) a[i];
        }
        try {
            return m.invoke(on, given).toString();
        } catch (InvocationTargetException e) {
            return e.getCause().getClass().getSimpleName();
        } catch (IllegalAccessException e) {
            return "unseen";
        }
    }

    private void row(int d, int sort, int... elements) {
        both("tape", d, sort, elements.length);
        for (int i = 0; i < elements.length; i++) {
            if (elements[i] != 0) {
                both("put", d, i, elements[i]);
            }
        }
    }

    /** Orders by chance, most of them right. */
    private void patternOnTape() {
        int[] orders = new int[40];
        int n = 0;
        int open = 0;
        for (int k = from(1, 8); k > 0; k--) {
            int order = pick(1, 1, 1, 2, 3, 4, 5, 6);
            if (order == 5 && open == 0 && random.nextInt(6) > 0) {
                order = 1;
            }
            open += order == 4 ? 1 : order == 5 ? -1 : 0;
            orders[n++] = random.nextInt(40) == 0 ? pick(-1, 7, 0, 127) : order;
            if (order == 1 || order == 2) {
                orders[n++] = order == 1 ? near(-8, 8) : near(-4, 4);
                orders[n++] = pick(near(-6, 9), near(0, 5), random.nextInt(10) == 0 ? near(-100, 100) : 2);
            } else if (order == 4 || order == 6) {
                orders[n++] = order == 4 ? near(1, pick(2, 3, 9)) : pick(near(4, 30), near(-100, 100));
            }
        }
        for (; open > 0 && random.nextInt(6) > 0; open--) {
            orders[n++] = 5;
        }
        if (random.nextInt(8) > 0) {
            orders[n++] = 6;
            orders[n++] = pick(8, 12, 20, 3, 0, -5);
        }
        int d = from(0, 5);
        row(d, 1, Arrays.copyOf(orders, n + (random.nextInt(10) > 0 ? 1 : 0)));
        both("read", d);
        both("make", near(1, 12), near(1, 12));
        both("makes");
    }

    /** A pattern that can be made, small or as large as can be. */
    private void exactPattern() {
        int points = pick(1, 2, 3, 4, 6);
        int[] orders = new int[3 * points + 3];
        for (int k = 0; k < points; k++) {
            orders[3 * k] = 1;
            orders[3 * k + 1] = from(-12, 12);
            orders[3 * k + 2] = from(-10, 10);
        }
        orders[3 * points] = 6;
        orders[3 * points + 1] = from(-2, 30);
        row(0, 1, orders);
        both("read", 0);
        both("make", from(3, 12), from(2, 12));
        both("makes");
    }

    /** A pattern of places where the stitches of the disc at work stand, its last one mostly among them. */
    private void patternOfDisc() {
        int n = (int) both("disc", 0);
        if (n < 1 || n > 20) {
            return;
        }
        int y = from(-3, 3);
        int length = (int) both("disc", 1);
        int[] orders = {1, (int) both("stitch", n - 1, 0), y, 6, length + pick(0, 0, 1)};
        for (int j = 0; j < n; j++) {
            int x = (int) both("stitch", j, 0);
            y += (int) both("stitch", j, 1);
            if (j == n - 1 ? random.nextBoolean() : random.nextInt(4) == 0) {
                orders = Arrays.copyOf(orders, orders.length + 3);
                orders[orders.length - 3] = 1;
                orders[orders.length - 2] = x;
                orders[orders.length - 1] = y;
            }
        }
        row(1, 1, Arrays.copyOf(orders, orders.length + 1));
        both("read", 1);
        both("makes");
    }

    private void discs() {
        both("disc", near(0, 6));
        int j = (int) both("disc", 0) - 1;
        both("file", near(0, Math.max(j, 0)), near(-12, 12), near(-12, 12));
        both("makes");
        both("stitch", near(0, Math.max(j, 0)), near(0, 1));
        both("turn", near(0, Math.max(j, 0)), near(0, 1));
        both("makes");
        both("point", near(0, 5), near(0, 1));
        both("lay", near(0, 7));
        both("disc", 2);
        if (random.nextBoolean()) {
            both("take", near(0, 7));
            both("makes");
        }
    }

    private void hems() {
        if (both("count", 2) > 5) {
            both("sideless");
        }
        both("side", pick(near(1, 999), near(1, 60), near(1, 20)));
        int i = near(0, Math.max(0, (int) both("count", 2) - 1));
        for (int what = 0; what < 5; what++) {
            both("hem", i, what);
        }
        int n = (int) both("hem", i, 3);
        both("fed", i, near(0, Math.max(n - 1, 0)));
        both("fed", i, near(0, Math.max(n - 1, 0)));
        both("meets");
        both("feeds", near(0, 5), i);
        both("judge", near(0, 5), i);
    }

    private void judges() {
        int d = from(0, 5);
        int i = near(0, Math.max(0, (int) both("count", 2) - 1));
        int n = (int) both("feeds", d, i);
        both("judge", d, i);
        if (n > 1) {
            for (int k = 0; k < 3; k++) {
                int j = from(0, n - 1);
                long v = both("at", d, j);
                both("put", d, j, v + pick(-2, -1, 1, 2));
                both("judge", d, i);
                int l = from(0, n - 1);
                long w = both("at", d, l);
                both("put", d, l, w + pick(-1, 1));
                both("judge", d, i);
            }
            both("tape", (d + 1) % 6, 2, Math.min(400, n + pick(-1, 0, 1)));
            both("copy", d, 0, (d + 1) % 6, 0, n - 1);
            both("judge", (d + 1) % 6, i);
        }
    }

    private void sews() {
        if (random.nextInt(3) == 0) {
            both("cloth", near(0, 1), near(0, pick(3, 9, 60)));
            both("cloth", near(0, 1), near(0, pick(3, 9, 60)));
            both("tensions", near(1, 99), near(1, pick(9, 99)));
            both("lock");
            both("tune", near(0, 1));
        }
        if (random.nextBoolean()) {
            both("wind", near(0, pick(100, 1000, 1000000)), near(0, pick(100, 1000, 1000000)));
        }
        if (both("count", 3) > 12) {
            both("stepless");
        }
        for (int k = from(1, 6); k > 0; k--) {
            int kind = near(0, 3);
            both("step", kind, kind == 0 ? near(0, 7) : kind == 1 ? near(1, pick(3, 12, 200)) : kind == 2 ? near(1, 3) : near(0, 0));
        }
        int n = (int) both("sew");
        for (int what = 0; what < 10; what++) {
            both("seam", what);
        }
        both("sewn", near(0, Math.max(0, n - 1)), 0);
        both("sewn", near(0, Math.max(0, n - 1)), 1);
        both("thread", near(0, 1));
        both("thread", 1);
    }

    private void rims() {
        int n = (int) both("disc", 0);
        int d = from(0, 5);
        if (n > 0) {
            if (random.nextBoolean()) {
                both("lay", from(0, 7));
            }
            int[] rim = new int[Math.min(48, Math.max(1, pick(n, n - 1, n + 2, 1, 2, 3)))];
            int a = from(0, n - 1);
            int way = pick(1, -1);
            int worn = pick(0, 0, 1, 3, 6, 7);
            for (int i = 0; i < rim.length; i++) {
                int w = (int) both("stitch", Math.floorMod(a + way * i, n), 0);
                rim[i] = random.nextInt(4) == 0 ? -128 : w - (worn == 0 ? 0 : from(0, worn));
            }
            row(d, 1, rim);
        }
        int wear = near(0, 6);
        both("wear", d);
        int many = (int) both("names", d, wear);
        both("name", d, wear, near(0, Math.max(0, many - 1)));
        both("name", d, wear, near(0, Math.max(0, many - 1)));
        both("name", near(0, 5), wear, near(0, 2));
        both("names", near(0, 5), near(0, 6));
        both("wear", near(0, 5));
    }

    private void faults() {
        int state = near(0, 2771);
        int m = near(0, 4);
        both("outcome", state, near(0, 324));
        if (both("count", 4) > from(1, 24)) {
            both("noteless");
        }
        for (int k = from(0, 3); k > 0; k--) {
            int trial = random.nextBoolean() ? near(0, 324) : (int) both("best", from(0, 4));
            both("note", trial, random.nextInt(4) == 0 ? near(0, 4) : both("outcome", state, trial));
        }
        int left = (int) both("left", m);
        both("state", m, near(0, Math.max(0, left - 1)));
        both("best", m);
        both("share", m, near(0, 324));
        if (random.nextInt(4) == 0) {
            for (int what = 0; what < 4; what++) {
                both("hunt", state, m, what);
            }
        }
    }

    private void tapes() {
        int d = near(0, 5);
        int sort = near(1, 4);
        if (random.nextBoolean()) {
            both("tape", d, sort, pick(near(0, 12), near(0, 400)));
            both("tape", near(0, 5), sort, near(0, 12));
        }
        both("put", d, near(0, 11), pick(1, -7, 300, 70000, -40000));
        both("put", d, near(0, 11), random.nextLong());
        both("at", d, near(0, 11));
        int e = random.nextBoolean() ? d : near(0, 5);
        both("copy", d, near(0, 5), e, near(0, 5), near(0, 7));
        both("at", e, near(0, 11));
        both("keep", near(0, 5));
        both("back", near(0, 5));
        both("toss", near(0, 5));
        both("clear", near(0, 5));
        both("count", near(0, 5));
    }

    private void looks() {
        for (int what = 0; what < 6; what++) {
            both("count", what);
        }
        for (int what = 0; what < 7; what++) {
            both("disc", what);
        }
        both("advance");
        both("lock");
        both("thread", 0);
    }

    private void anything() {
        Method m = face[random.nextInt(face.length)];
        if (m.getName().equals("begin") && random.nextInt(3) > 0) {
            return;
        }
        long[] a = new long[m.getParameterCount()];
        for (int i = 0; i < a.length; i++) {
            a[i] = random.nextInt(3) > 0 ? from(-1, 9) : pick(EDGES);
        }
        both(m.getName(), a);
    }
}
