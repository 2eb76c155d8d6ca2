import java.util.Arrays;

/** VI, TAPES, and promises 1, 2 and 43 to 51: each sentence that names a boundary, on both of its sides. */
public final class TapeEdgeTest {
    public static void main(String[] args) {
        nothingAtFirst();
        beginLeavesTapes();
        beginAgain();
        tapesFrom0To5();
        sortsFrom1To4();
        sizesFrom0To400();
        allZeroAgain();
        bytesNarrowed();
        shortsNarrowed();
        intsNarrowed();
        longsAsTheyAre();
        narrowedByAll();
        putFirstAndLast();
        keptDiscs();
        backFromTapes();
        tossedBySteep();
        cleared();
        copiedWhole();
        copiedAsTheyWere();
        copiedNone();
        copiedBetweenSorts();
        countsOfEach();
        refusalsOfTheHost();
        noRefusalsOfTheHost();
        Due.end("TapeEdgeTest");
    }

    private static void rowIs(CamStitch x, int d, long... due) {
        long[] seen = new long[due.length];
        for (int i = 0; i < due.length; i++) {
            seen[i] = x.at(d, i);
        }
        Due.same("tape " + d, Arrays.toString(seen), Arrays.toString(due));
        Due.state("no more on tape " + d, () -> x.at(d, due.length));
    }

    /** "As told in I to VI." */
    private static void nothingAtFirst() {
        CamStitch x = new CamStitch();
        for (int what = 0; what <= 5; what++) {
            Due.due("count(" + what + ")", x.count(what), 0);
        }
        for (int d = 0; d <= 5; d++) {
            int onTape = d;
            Due.state("at(" + d + ", 0)", () -> x.at(onTape, 0));
            Due.due("read(" + d + ")", x.read(d), -11);
            Due.due("toss(" + d + ")", x.toss(d), -11);
            Due.due("clear(" + d + ")", x.clear(d), 0);
        }
        for (int k = 0; k <= 7; k++) {
            Due.due("take(" + k + ")", x.take(k), -3);
        }
        Due.state("no pattern", () -> x.advance());
        Due.state("no disc", () -> x.disc(0));
        Due.state("no side", () -> x.hem(0, 0));
        Due.state("no seam", () -> x.seam(0));
        Due.due("no steps", x.stepless(), 0);
        Due.due("no notes", x.noteless(), 0);
        Due.due("no sides", x.sideless(), 0);
        Due.due("spool", x.thread(0), 100000);
        Due.due("bobbin", x.thread(1), 5000);
        Due.due("lock", x.lock(), 0);
        Due.due("thick 0", x.cloth(0, 60), 4);
        Due.due("thick 1", x.cloth(1, 60), 0);
        Due.due("tensions are alike", x.lock(), 4);
    }

    /** "(TAPES stay)": of each sort, and with all that is on them. */
    private static void beginLeavesTapes() {
        CamStitch x = new CamStitch();
        Due.work(x, 3, 4, -5, 6);
        x.keep(5);
        for (int sort = 1; sort <= 4; sort++) {
            x.tape(sort, sort, 400);
            x.put(sort, 0, sort);
            x.put(sort, 399, -sort);
        }
        x.put(0, 0, 0);
        Due.due("a refusal", x.count(5), 1);
        Due.due("begin", x.begin(), 0);
        Due.due("no refusals", x.count(5), 0);
        for (int sort = 1; sort <= 4; sort++) {
            int onTape = sort;
            Due.due("the first of " + sort, x.at(sort, 0), sort);
            Due.due("the last of " + sort, x.at(sort, 399), -sort);
            Due.state("no more of " + sort, () -> x.at(onTape, 400));
        }
        Due.due("nothing still", x.put(0, 0, 0), -11);
        Due.due("toss", x.toss(5), 8);
        Due.due("the disc comes back", x.back(5), 2);
        Due.stitches(x, "as kept", 3, 4, -5, 6);
        for (int d = 0; d <= 5; d++) {
            Due.due("clear(" + d + ")", x.clear(d), d);
        }
    }

    private static void beginAgain() {
        CamStitch x = Room.FULL.made();
        Due.due("begin a full room", x.begin(), 0);
        for (int what = 0; what <= 5; what++) {
            Due.due("count(" + what + ")", x.count(what), 0);
        }
        Due.due("left", x.left(1), 28);
        Due.due("makes", x.makes(), -3);
        Due.due("make", x.make(1, 1), -3);
        Due.due("meets", x.meets(), -3);
        Due.due("keep", x.keep(0), -3);
        Due.due("sew", x.sew(), 0);
        Due.due("no steps", x.seam(9), 0);
        for (int i = 1; i <= 8; i++) {
            Due.due("side", x.side(i), i);
        }
        for (int i = 1; i <= 20; i++) {
            Due.due("step", x.step(3, 0), i);
        }
        for (int i = 1; i <= 24; i++) {
            Due.due("note", x.note(0, 0), i);
        }
        Due.due("begin twice", x.begin() + x.begin(), 0);
        Due.state("none sewn", () -> x.seam(0));
    }

    /** "TAPES 0 .. 5" */
    private static void tapesFrom0To5() {
        int[] tapes = {Integer.MIN_VALUE, -1, 0, 1, 2, 3, 4, 5, 6, 256, 65536, Integer.MAX_VALUE};
        for (int d : tapes) {
            CamStitch x = new CamStitch();
            boolean is = d >= 0 && d <= 5;
            Due.due("tape(" + d + ", 3, 2)", x.tape(d, 3, 2), is ? 2 : -1);
            Due.due("put(" + d + ", 1, 7)", x.put(d, 1, 7), is ? 1 : -1);
            if (is) {
                rowIs(x, d, 0, 7);
            } else {
                Due.argument("at(" + d + ", 1)", () -> x.at(d, 1));
            }
            Due.due("copy(" + d + ", 1, " + d + ", 0, 1)", x.copy(d, 1, d, 0, 1), is ? 1 : -1);
            Due.due("clear(" + d + ")", x.clear(d), is ? 3 : -1);
            Due.work(x, 1, 1, 3, 3);
            Due.due("keep(" + d + ")", x.keep(d), is ? 2 : -1);
            Due.due("toss(" + d + ")", x.toss(d), is ? 2 : -1);
            Due.due("back(" + d + ")", x.back(d), is ? 2 : -1);
            Due.due("no refusals of the host's", x.count(5), 0);
            // Each TAPE is one of its own.
            for (int other = 0; other <= 5; other++) {
                Due.due("tape " + other, x.clear(other), other == d ? 5 : other == 5 ? 1 : 0);
            }
        }
    }

    /** "of a sort (1 .. 4)" */
    private static void sortsFrom1To4() {
        int[] sorts = {Integer.MIN_VALUE, -1, 0, 1, 2, 3, 4, 5, 6, 256 + 1, Integer.MAX_VALUE};
        for (int sort : sorts) {
            CamStitch x = new CamStitch();
            boolean is = sort >= 1 && sort <= 4;
            Due.due("tape(0, " + sort + ", 3)", x.tape(0, sort, 3), is ? 3 : -1);
            Due.due("tape(0, " + sort + ", 401)", x.tape(0, sort, 401), -1);
            Due.due("tape(0, " + sort + ", -1)", x.tape(0, sort, -1), is ? -14 : -1);
            Due.due("clear", x.clear(0), is ? sort : 0);
            Due.due("refusals", x.count(5), is ? 1 : 0);
        }
    }

    /** "n above 400" is NONE, "a size below 0" is SIZE. */
    private static void sizesFrom0To400() {
        int[] sizes = {Integer.MIN_VALUE, -401, -2, -1, 0, 1, 2, 399, 400, 401, 402, 65536, Integer.MAX_VALUE};
        for (int n : sizes) {
            for (int sort = 1; sort <= 4; sort++) {
                CamStitch x = new CamStitch();
                boolean is = n >= 0 && n <= 400;
                Due.due("tape(1, " + sort + ", " + n + ")", x.tape(1, sort, n), is ? n : n < 0 ? -14 : -1);
                Due.due("refusals", x.count(5), n < 0 ? 1 : 0);
                Due.due("the last", x.put(1, n - 1, 1), is ? n > 0 ? 1 : -13 : -11);
                Due.due("one more", x.put(1, Math.abs(n), 1), is ? -13 : -11);
                Due.due("clear", x.clear(1), is ? sort : 0);
            }
        }
    }

    /** "a row of n elements, all 0": whatever was there. */
    private static void allZeroAgain() {
        for (int sort = 1; sort <= 4; sort++) {
            CamStitch x = new CamStitch();
            x.tape(0, sort, 100);
            for (int i = 0; i < 100; i++) {
                Due.due("put", x.put(0, i, i + 1), 1);
            }
            Due.due("a shorter one", x.tape(0, sort, 3), 3);
            rowIs(x, 0, 0, 0, 0);
            Due.due("a longer one", x.tape(0, 5 - sort, 100), 100);
            for (int i = 0; i < 100; i++) {
                Due.due("at " + i, x.at(0, i), 0);
            }
        }
        CamStitch x = new CamStitch();
        x.tape(0, 3, 2);
        x.put(0, 1, 5);
        Due.work(x, 4, 4);
        x.keep(0);
        Due.due("a row behind a disc", x.tape(0, 3, 2), 2);
        rowIs(x, 0, 0, 0);
    }

    private static void narrows(int sort, long v, long due) {
        CamStitch x = new CamStitch();
        x.tape(0, sort, 3);
        Due.due("put " + v + " into sort " + sort, x.put(0, 1, v), 1);
        rowIs(x, 0, 0, due, 0);
    }

    /** "Element i ... becomes v, narrowed to its sort" */
    private static void bytesNarrowed() {
        narrows(1, 127, 127);
        narrows(1, 128, -128);
        narrows(1, -128, -128);
        narrows(1, -129, 127);
        narrows(1, 255, -1);
        narrows(1, 256, 0);
        narrows(1, -256, 0);
        narrows(1, 300, 44);
        narrows(1, 1L << 32, 0);
        narrows(1, (1L << 32) + 5, 5);
        narrows(1, Long.MAX_VALUE, -1);
        narrows(1, Long.MIN_VALUE, 0);
    }

    private static void shortsNarrowed() {
        narrows(2, 128, 128);
        narrows(2, 32767, 32767);
        narrows(2, 32768, -32768);
        narrows(2, -32768, -32768);
        narrows(2, -32769, 32767);
        narrows(2, 65535, -1);
        narrows(2, 65536, 0);
        narrows(2, (1L << 40) - 7, -7);
        narrows(2, Long.MAX_VALUE, -1);
        narrows(2, Long.MIN_VALUE, 0);
    }

    private static void intsNarrowed() {
        narrows(3, 65536, 65536);
        narrows(3, 2147483647L, 2147483647L);
        narrows(3, 2147483648L, -2147483648L);
        narrows(3, -2147483648L, -2147483648L);
        narrows(3, -2147483649L, 2147483647L);
        narrows(3, 4294967295L, -1);
        narrows(3, 4294967296L, 0);
        narrows(3, Long.MAX_VALUE, -1);
        narrows(3, Long.MIN_VALUE, 0);
    }

    private static void longsAsTheyAre() {
        long[] all = {0, -1, 2147483648L, -2147483649L, 4294967296L, Long.MAX_VALUE, Long.MAX_VALUE - 1, Long.MIN_VALUE,
            Long.MIN_VALUE + 1};
        for (long v : all) {
            narrows(4, v, v);
        }
    }

    private static void narrowedByAll() {
        for (int shift = 0; shift < 64; shift++) {
            for (long more = -1; more <= 1; more++) {
                long v = (1L << shift) + more;
                narrows(1, v, (byte) v);
                narrows(2, v, (short) v);
                narrows(3, v, (int) v);
                narrows(4, v, v);
            }
        }
    }

    private static void putFirstAndLast() {
        int[] lengths = {1, 2, 400};
        for (int n : lengths) {
            CamStitch x = new CamStitch();
            x.tape(5, 4, n);
            Due.due("put -1", x.put(5, -1, 9), -13);
            Due.due("put the first", x.put(5, 0, 8), 1);
            Due.due("put the last", x.put(5, n - 1, 9), 1);
            Due.due("put one more", x.put(5, n, 9), -13);
            Due.due("the first", x.at(5, 0), n == 1 ? 9 : 8);
            Due.due("the last", x.at(5, n - 1), 9);
            Due.state("at -1", () -> x.at(5, -1));
            Due.state("at one more", () -> x.at(5, n));
            Due.due("refusals: at() has none", x.count(5), 2);
        }
    }

    /** "TAPE d gets the DISC at work": of one STITCH and of 48, whatever it held. */
    private static void keptDiscs() {
        CamStitch x = new CamStitch();
        for (int d = 0; d <= 5; d++) {
            Due.due("keep none on " + d, x.keep(d), -3);
            Due.due("nothing on " + d, x.clear(d), 0);
        }
        Due.work(x, -12, 12);
        for (int sort = 1; sort <= 4; sort++) {
            x.tape(sort, sort, 400);
            Due.due("keep over sort " + sort, x.keep(sort), 1);
            Due.due("no row", x.put(sort, 0, 0), -12);
        }
        Due.read(x, 1, 0, 0, 6, 48, 0);
        Due.due("make 48", x.make(1, 1), 48);
        Due.due("keep 48 over 1", x.keep(1), 48);
        Due.due("back 1", x.back(2), 1);
        Due.stitches(x, "one", -12, 12);
        Due.due("back 48", x.back(1), 48);
        Due.due("length", x.disc(1), 48);
        Due.due("held", x.clear(1), 5);
        Due.due("48 at work still", x.disc(0), 48);
    }

    private static void backFromTapes() {
        CamStitch x = new CamStitch();
        Due.due("back(-1)", x.back(-1), -1);
        Due.due("back(6)", x.back(6), -1);
        Due.due("back(0), nothing", x.back(0), -11);
        Due.work(x, 1, 2);
        x.keep(0);
        x.begin();
        Due.due("back(0)", x.back(0), 1);
        Due.stitches(x, "at work again", 1, 2);
        x.file(0, 9, 9);
        Due.due("back(0) again", x.back(0), 1);
        Due.stitches(x, "as kept", 1, 2);
        for (int sort = 1; sort <= 4; sort++) {
            x.tape(0, sort, 48);
            Due.due("back of sort " + sort, x.back(0), -12);
        }
        Due.stitches(x, "as it was", 1, 2);
    }

    /** "its STEEP"; "THROWN: one that is STEEP by 0 has none" */
    private static void tossedBySteep() {
        for (int steep = 0; steep <= 24; steep++) {
            CamStitch x = new CamStitch();
            Due.work(x, -12, 1, -12 + steep, 1);
            x.keep(3);
            Due.due("steep", x.disc(2), steep);
            Due.due("toss " + steep, x.toss(3), steep == 0 ? -15 : steep);
            Due.due("refusals", x.count(5), steep == 0 ? 1 : 0);
            Due.due("it stays on the tape", x.clear(3), 5);
            Due.due("toss nothing", x.toss(3), -11);
        }
        CamStitch one = new CamStitch();
        Due.work(one, 7, 7);
        one.keep(0);
        Due.due("one stitch isn't steep", one.toss(0), -15);
        one.file(0, 9, 9);
        Due.due("the disc at work isn't asked", one.toss(0), -15);
        Due.due("refusals", one.count(5), 2);
    }

    /** "what it held (0 nothing, 1 .. 5)" */
    private static void cleared() {
        for (int d = 0; d <= 5; d++) {
            CamStitch x = new CamStitch();
            Due.due("nothing", x.clear(d), 0);
            for (int sort = 1; sort <= 4; sort++) {
                x.tape(d, sort, sort % 2 == 0 ? 0 : 400);
                Due.due("sort " + sort, x.clear(d), sort);
                Due.due("nothing", x.clear(d), 0);
                Due.due("put", x.put(d, 0, 0), -11);
            }
            Due.work(x, 1, 1);
            x.keep(d);
            Due.due("a disc", x.clear(d), 5);
            Due.due("nothing", x.clear(d), 0);
            Due.due("clear(-1)", x.clear(-1), -1);
            Due.due("clear(6)", x.clear(6), -1);
        }
    }

    /** "n elements ... from place i on": all of 400, and the last one. */
    private static void copiedWhole() {
        for (int sort = 1; sort <= 4; sort++) {
            CamStitch x = new CamStitch();
            x.tape(0, sort, 400);
            x.tape(1, sort, 400);
            x.put(0, 0, 3);
            x.put(0, 399, 4);
            Due.due("all 400", x.copy(0, 0, 1, 0, 400), 400);
            Due.due("the first", x.at(1, 0), 3);
            Due.due("the last", x.at(1, 399), 4);
            Due.due("one too many", x.copy(0, 0, 1, 0, 401), -13);
            Due.due("one too late", x.copy(0, 1, 1, 0, 400), -13);
            Due.due("one too late there", x.copy(0, 0, 1, 1, 400), -13);
            Due.due("399 from the second", x.copy(0, 1, 1, 0, 399), 399);
            Due.due("the last but one", x.at(1, 398), 4);
            Due.due("the last stays", x.at(1, 399), 4);
            Due.due("the first was 0", x.at(1, 0), 0);
            Due.due("the last to the first", x.copy(0, 399, 1, 0, 1), 1);
            Due.due("the first", x.at(1, 0), 4);
            Due.due("beyond the last", x.copy(0, 400, 1, 0, 1), -13);
            Due.due("before the first", x.copy(0, -1, 1, 0, 1), -13);
            Due.due("refusals", x.count(5), 5);
        }
    }

    /** "(as they all were before)": on one TAPE, either way, by each distance. */
    private static void copiedAsTheyWere() {
        for (int i = 0; i <= 6; i++) {
            for (int j = 0; j <= 6; j++) {
                for (int n = 0; n <= 6; n++) {
                    CamStitch x = new CamStitch();
                    Due.row(x, 2, 3, 1, 2, 3, 4, 5);
                    boolean is = i + n <= 5 && j + n <= 5;
                    long[] due = {1, 2, 3, 4, 5};
                    for (int k = 0; is && k < n; k++) {
                        due[j + k] = 1 + i + k;
                    }
                    Due.due("copy(2, " + i + ", 2, " + j + ", " + n + ")", x.copy(2, i, 2, j, n), is ? n : -13);
                    rowIs(x, 2, due);
                }
            }
        }
    }

    /** n 0 is allowed as far as behind the last place, and of empty rows. */
    private static void copiedNone() {
        CamStitch x = new CamStitch();
        Due.row(x, 0, 2, 7, 8);
        x.tape(1, 2, 0);
        Due.due("from behind the last", x.copy(0, 2, 1, 0, 0), 0);
        Due.due("from one beyond that", x.copy(0, 3, 1, 0, 0), -13);
        Due.due("to behind the last", x.copy(1, 0, 0, 2, 0), 0);
        Due.due("to one beyond that", x.copy(1, 0, 0, 3, 0), -13);
        Due.due("of empty rows", x.copy(1, 0, 1, 0, 0), 0);
        Due.due("place 1 of an empty row", x.copy(1, 1, 0, 0, 0), -13);
        Due.due("one of an empty row", x.copy(1, 0, 0, 0, 1), -13);
        Due.due("one to an empty row", x.copy(0, 0, 1, 0, 1), -13);
        rowIs(x, 0, 7, 8);
        rowIs(x, 1);
        Due.due("nothing is on tape 2", x.copy(0, 0, 2, 0, 0), -11);
        Due.due("n below 0", x.copy(0, 0, 0, 0, -1), -13);
    }

    /** "CAST: one is no row, or they are of two sorts" */
    private static void copiedBetweenSorts() {
        CamStitch x = new CamStitch();
        Due.work(x, 1, 1);
        x.keep(5);
        for (int sort = 1; sort <= 4; sort++) {
            Due.row(x, sort, sort, sort);
        }
        for (int d = 0; d <= 5; d++) {
            for (int e = 0; e <= 5; e++) {
                int due = d == 0 || e == 0 ? -11 : d == 5 || e == 5 || d != e ? -12 : 1;
                Due.due("copy(" + d + ", 0, " + e + ", 0, 1)", x.copy(d, 0, e, 0, 1), due);
            }
        }
        for (int sort = 1; sort <= 4; sort++) {
            rowIs(x, sort, sort);
            x.tape(0, sort, 1);
            Due.due("of one sort", x.copy(sort, 0, 0, 0, 1), 1);
            rowIs(x, 0, sort);
        }
    }

    private static void countsOfEach() {
        CamStitch x = Room.FULL.made();
        int[] full = {24, 8, 8, 20, 24, 0};
        CamStitch y = Room.ORDINARY.made();
        int[] some = {2, 2, 2, 5, 2, 0};
        for (int what = 0; what <= 5; what++) {
            Due.due("full: count(" + what + ")", x.count(what), full[what]);
            Due.due("some: count(" + what + ")", y.count(what), some[what]);
            Due.due("none: count(" + what + ")", new CamStitch().count(what), 0);
        }
        int[] beyond = {-1, 6, 7, 256, Integer.MIN_VALUE, Integer.MAX_VALUE};
        for (int what : beyond) {
            Due.due("count(" + what + ")", x.count(what), -1);
        }
    }

    /** "5 refusals of the host's (-11 to -15) since begin()": each of each method. */
    private static void refusalsOfTheHost() {
        CamStitch x = Room.FLAT.made();
        x.keep(5);
        int refusals = 0;
        Due.due("none yet", x.count(5), 0);
        int[] got = {x.read(0), x.read(5), x.names(0, 0), x.names(5, 0), x.name(0, 0, 0), x.name(5, 0, 0), x.wear(0), x.wear(5),
            x.tape(0, 1, -1), x.back(0), x.back(1), x.toss(0), x.toss(1), x.put(0, 0, 0), x.put(5, 0, 0), x.put(1, 3, 0),
            x.copy(0, 0, 1, 0, 1), x.copy(1, 0, 2, 0, 1), x.copy(1, 0, 1, 0, 4)};
        int[] due = {-11, -12, -11, -12, -11, -12, -11, -12, -14, -11, -12, -11, -12, -11, -12, -13, -11, -12, -13};
        Due.same("refusals", Arrays.toString(got), Arrays.toString(due));
        refusals += due.length;
        Due.due("all are counted", x.count(5), refusals);
        x.file(0, 4, 2);
        Due.due("judge nothing", x.judge(0, 0), -11);
        Due.due("judge a disc", x.judge(5, 0), -12);
        Due.due("judge too few", x.judge(2, 0), -13);
        Due.work(x, 1, 1);
        x.keep(5);
        Due.due("toss what isn't steep", x.toss(5), -15);
        Due.due("all are counted", x.count(5), refusals + 4);
        Due.due("asked for again", x.count(5), refusals + 4);
        x.begin();
        Due.due("none since begin()", x.count(5), 0);
        Due.due("one more", x.back(0), -11);
        Due.due("one since begin()", x.count(5), 1);
    }

    /** NONE, FULL, BARE, UNABLE, faults of a PATTERN and exceptions aren't the host's. */
    private static void noRefusalsOfTheHost() {
        CamStitch x = new CamStitch();
        int[] got = {x.read(6), x.make(0, 1), x.make(1, 1), x.file(0, 0, 0), x.makes(), x.lay(8), x.lay(0), x.take(0), x.turn(0, 0),
            x.side(0), x.meets(), x.feeds(6, 0), x.feeds(0, 0), x.judge(6, 0), x.judge(0, 0), x.cloth(2, 0), x.tensions(0, 0),
            x.tune(2), x.tune(1), x.wind(-1, 0), x.step(4, 0), x.thread(2), x.names(6, 0), x.names(0, 7), x.name(0, 0, -1),
            x.wear(6), x.outcome(-1, 0), x.note(325, 0), x.left(5), x.state(5, 0), x.best(5), x.best(0), x.share(5, 0),
            x.hunt(-1, 0, 0), x.tape(6, 1, 1), x.tape(0, 1, 401), x.keep(6), x.keep(0), x.back(6), x.toss(6), x.clear(6),
            x.put(6, 0, 0), x.copy(6, 0, 0, 0, 0), x.count(6)};
        int[] due = {-1, -1, -3, -1, -3, -1, -3, -3, -1, -1, -3, -1, -3, -1, -3, -1, -1, -1, -4, -1, -1, -1, -1, -1, -1, -1, -1, -1,
            -1, -1, -1, -4, -1, -1, -1, -1, -1, -3, -1, -1, -1, -1, -1, -1};
        Due.same("no refusals of the host's", Arrays.toString(got), Arrays.toString(due));
        Due.argument("at(6, 0)", () -> x.at(6, 0));
        Due.state("at(0, 0)", () -> x.at(0, 0));
        Due.due("an empty row isn't a pattern", x.tape(0, 1, 0) + x.read(0), -100);
        x.tape(0, 1, 11);
        // The FIRST FAULT at 11 is -111, not -11.
        for (int i = 0; i < 11; i++) {
            x.put(0, i, 3);
        }
        Due.due("a fault at 11", x.read(0), -111);
        Due.due("none is counted", x.count(5), 0);
    }
}
