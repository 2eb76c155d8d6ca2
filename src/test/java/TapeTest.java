/** Promises 1, 2 and 43 to 51: tapes, the host's refusals, a new object and a new beginning. */
public final class TapeTest {
    public static void main(String[] args) {
        newObject();
        tapes();
        narrowed();
        places();
        discs();
        tosses();
        copies();
        copiesRefused();
        begins();
        Due.end("TapeTest");
    }

    private static void newObject() {
        CamStitch x = new CamStitch();
        for (int what = 0; what <= 5; what++) {
            Due.due("count " + what, x.count(what), 0);
        }
        Due.due("count -1", x.count(-1), -1);
        Due.due("count 6", x.count(6), -1);
        for (int d = 0; d <= 5; d++) {
            Due.due("tape " + d, x.clear(d), 0);
        }
        for (int k = 0; k <= 7; k++) {
            Due.due("shelf " + k, x.take(k), -3);
        }
        Due.due("not turned", x.turn(0, 0), -1);
        Due.due("lock", x.lock(), 0);
        Due.due("tensions", x.tune(0), 101);
        Due.state("no seam", () -> x.seam(0));
    }

    private static void tapes() {
        CamStitch x = new CamStitch();
        Due.due("tape -1", x.tape(-1, 1, 1), -1);
        Due.due("tape 6", x.tape(6, 1, 1), -1);
        Due.due("sort 0", x.tape(0, 0, 1), -1);
        Due.due("sort 5", x.tape(0, 5, 1), -1);
        Due.due("n 401", x.tape(0, 1, 401), -1);
        Due.due("n -1", x.tape(0, 1, -1), -14);
        Due.due("n least", x.tape(0, 4, Integer.MIN_VALUE), -14);
        Due.due("tape ahead of size", x.tape(6, 1, -1), -1);
        Due.due("sort ahead of size", x.tape(0, 5, -1), -1);
        Due.due("nothing yet", x.clear(0), 0);
        Due.due("refusals", x.count(5), 2);
        for (int sort = 1; sort <= 4; sort++) {
            Due.due("400", x.tape(sort, sort, 400), 400);
            Due.due("the last", x.put(sort, 399, 7), 1);
            Due.due("the last", x.at(sort, 399), 7);
            Due.due("refused", x.tape(sort, sort, -1), -14);
            Due.due("as it was", x.at(sort, 399), 7);
            Due.due("again", x.tape(sort, 5 - sort, 400), 400);
            Due.due("all 0", x.at(sort, 399), 0);
            Due.due("none", x.tape(sort, sort, 0), 0);
            Due.state("no place", () -> x.at(1, 0));
            Due.due("clear", x.clear(sort), sort);
            Due.due("clear again", x.clear(sort), 0);
        }
        Due.due("clear -1", x.clear(-1), -1);
        Due.due("clear 6", x.clear(6), -1);
    }

    private static void narrowed() {
        CamStitch x = new CamStitch();
        for (int sort = 1; sort <= 4; sort++) {
            x.tape(sort, sort, 2);
        }
        long[] puts = {127, 128, -129, 255, 32768, -32769, 2147483648L, -2147483649L, 0x123456789abcdef8L, Long.MIN_VALUE};
        for (long v : puts) {
            for (int sort = 1; sort <= 4; sort++) {
                Due.due("put", x.put(sort, 1, v), 1);
            }
            Due.due("byte of " + v, x.at(1, 1), (byte) v);
            Due.due("short of " + v, x.at(2, 1), (short) v);
            Due.due("int of " + v, x.at(3, 1), (int) v);
            Due.due("long of " + v, x.at(4, 1), v);
        }
        Due.due("the other", x.at(1, 0), 0);
    }

    private static void places() {
        CamStitch x = new CamStitch();
        Due.due("tape -1", x.put(-1, 0, 0), -1);
        Due.due("tape 6", x.put(6, 0, 0), -1);
        Due.due("nothing", x.put(0, 0, 0), -11);
        Due.argument("tape -1", () -> x.at(-1, 0));
        Due.argument("tape 6", () -> x.at(6, 0));
        Due.state("nothing", () -> x.at(0, 0));
        Due.work(x, 0, 0);
        x.keep(0);
        Due.due("a disc", x.put(0, 0, 0), -12);
        Due.state("a disc", () -> x.at(0, 0));
        x.tape(0, 3, 2);
        Due.due("place -1", x.put(0, -1, 0), -13);
        Due.due("place 2", x.put(0, 2, 0), -13);
        Due.due("the last place", x.put(0, 1, 8), 1);
        Due.due("the last place", x.at(0, 1), 8);
        Due.state("place -1", () -> x.at(0, -1));
        Due.state("place 2", () -> x.at(0, 2));
        Due.due("refusals", x.count(5), 4);
        // A shorter row has not the places of the one before.
        x.tape(0, 3, 1);
        Due.due("place 1", x.put(0, 1, 0), -13);
        x.clear(0);
        Due.due("cleared", x.put(0, 0, 0), -11);
        Due.state("cleared", () -> x.at(0, 0));
    }

    private static void discs() {
        CamStitch x = new CamStitch();
        Due.due("keep -1", x.keep(-1), -1);
        Due.due("keep 6", x.keep(6), -1);
        Due.due("keep none", x.keep(0), -3);
        Due.due("back -1", x.back(-1), -1);
        Due.due("back 6", x.back(6), -1);
        Due.due("back nothing", x.back(0), -11);
        for (int sort = 1; sort <= 4; sort++) {
            x.tape(0, sort, 1);
            Due.due("back of a row", x.back(0), -12);
        }
        Due.due("keep none", x.keep(0), -3);
        Due.due("the row stays", x.clear(0), 4);
        Due.work(x, 1, 2, 3, 4);
        Due.due("keep", x.keep(0), 2);
        x.file(0, 5, 6);
        x.turn(1, 0);
        Due.due("back", x.back(0), 2);
        Due.stitches(x, "as kept", 1, 2, 3, 4);
        Due.work(x, 7, 8);
        Due.due("back", x.back(0), 2);
        Due.stitches(x, "it stays on the tape", 1, 2, 3, 4);
        Due.due("refused", x.back(1), -11);
        Due.stitches(x, "refused", 1, 2, 3, 4);
        Due.due("clear", x.clear(0), 5);
        Due.due("back nothing", x.back(0), -11);
    }

    private static void tosses() {
        CamStitch x = new CamStitch();
        Due.due("toss -1", x.toss(-1), -1);
        Due.due("toss 6", x.toss(6), -1);
        Due.due("toss nothing", x.toss(0), -11);
        for (int sort = 1; sort <= 4; sort++) {
            x.tape(0, sort, 1);
            Due.due("toss of a row", x.toss(0), -12);
        }
        Due.work(x, 12, 0, -5, 0, -12, 0);
        x.keep(0);
        Due.due("24", x.toss(0), 24);
        Due.due("24 again", x.toss(0), 24);
        Due.work(x, 7, 3, 7, 4);
        x.keep(0);
        Due.due("steep by 0", x.toss(0), -15);
        Due.work(x, 7, 3, 8, 4);
        x.keep(0);
        Due.due("1", x.toss(0), 1);
        Due.due("refusals", x.count(5), 6);
    }

    private static void copies() {
        CamStitch x = new CamStitch();
        Due.row(x, 0, 3, 1, 2, 3, 4, 5);
        Due.due("to the right", x.copy(0, 0, 0, 1, 4), 4);
        rowIs(x, 0, 1, 1, 2, 3, 4);
        Due.due("to the left", x.copy(0, 1, 0, 0, 4), 4);
        rowIs(x, 0, 1, 2, 3, 4, 4);
        Due.row(x, 1, 3, 0, 0);
        Due.due("to another", x.copy(0, 2, 1, 0, 2), 2);
        rowIs(x, 1, 3, 4);
        Due.due("none", x.copy(0, 5, 1, 2, 0), 0);
        rowIs(x, 1, 3, 4);
        Due.due("all on itself", x.copy(1, 0, 1, 0, 2), 2);
        rowIs(x, 1, 3, 4);
        for (int sort = 1; sort <= 4; sort++) {
            Due.row(x, 2, sort, 9);
            Due.row(x, 3, sort, 8);
            Due.due("sort " + sort, x.copy(2, 0, 3, 0, 1), 1);
            rowIs(x, 3, 9);
        }
    }

    private static void rowIs(CamStitch x, int d, long... due) {
        for (int i = 0; i < due.length; i++) {
            Due.due("tape " + d + " at " + i, x.at(d, i), due[i]);
        }
        Due.state("beyond", () -> x.at(d, due.length));
    }

    private static void copiesRefused() {
        CamStitch x = new CamStitch();
        Due.row(x, 0, 3, 1, 2, 3);
        Due.row(x, 1, 3, 4, 5);
        x.tape(2, 2, 2);
        Due.work(x, 0, 0);
        x.keep(3);
        x.keep(4);
        x.clear(5);
        int most = Integer.MAX_VALUE;
        int least = Integer.MIN_VALUE;
        int[][] calls = {
            {-1, 0, 0, 0, 1, -1}, {6, 0, 0, 0, 1, -1}, {0, 0, -1, 0, 1, -1}, {0, 0, 6, 0, 1, -1}, {6, 0, 5, 0, 1, -1},
            {5, 0, 0, 0, 1, -11}, {0, 0, 5, 0, 1, -11}, {5, 0, 5, 0, 1, -11}, {5, 0, 3, 0, 1, -11}, {3, 0, 5, 0, -1, -11},
            {3, 0, 0, 0, 1, -12}, {0, 0, 3, 0, 1, -12}, {3, 0, 4, 0, 0, -12}, {3, 0, 3, 0, 0, -12}, {0, 0, 2, 0, 1, -12},
            {2, 0, 0, 0, -1, -12},
            {0, 0, 1, 0, -1, -13}, {0, -1, 1, 0, 1, -13}, {0, 0, 1, -1, 1, -13}, {0, 3, 1, 0, 1, -13}, {0, 0, 1, 2, 1, -13},
            {0, 0, 1, 0, 3, -13}, {1, 0, 0, 0, 3, -13}, {0, 4, 1, 0, 0, -13}, {0, 0, 1, 3, 0, -13}, {0, 2, 0, 0, 2, -13},
            {0, most, 1, 0, most, -13}, {0, 0, 1, 0, most, -13}, {0, 0, 1, most, 1, -13}, {0, most, 1, 0, 0, -13},
            {0, least, 1, 0, least, -13}, {0, 0, 1, least, 1, -13},
        };
        int hosts = 0;
        for (int[] c : calls) {
            Due.due("copy " + java.util.Arrays.toString(c), x.copy(c[0], c[1], c[2], c[3], c[4]), c[5]);
            hosts += c[5] == -1 ? 0 : 1;
        }
        Due.due("refusals", x.count(5), hosts);
        rowIs(x, 0, 1, 2, 3);
        rowIs(x, 1, 4, 5);
    }

    private static void begins() {
        CamStitch x = new CamStitch();
        Due.work(x, 0, 1, 2, 1);
        x.lay(0);
        x.lay(7);
        x.side(5);
        x.step(1, 1);
        x.sew();
        x.note(0, 0);
        x.cloth(0, 7);
        x.cloth(1, 7);
        x.tensions(5, 50);
        x.wind(1, 2);
        x.keep(0);
        Due.row(x, 1, 4, 5);
        x.put(2, 0, 0);
        int[] before = {2, 2, 1, 1, 1, 1};
        for (int what = 0; what <= 5; what++) {
            Due.due("count " + what, x.count(what), before[what]);
        }
        Due.due("begin", x.begin(), 0);
        for (int what = 0; what <= 5; what++) {
            Due.due("count " + what + " after begin", x.count(what), 0);
        }
        Due.state("no pattern", () -> x.advance());
        Due.state("no disc", () -> x.disc(0));
        Due.due("no disc to lay", x.lay(0), -3);
        Due.due("bare", x.take(0), -3);
        Due.due("bare", x.take(7), -3);
        Due.state("no seam", () -> x.seam(0));
        Due.state("no stitch", () -> x.sewn(0, 0));
        Due.due("spool", x.thread(0), 100000);
        Due.due("bobbin", x.thread(1), 5000);
        Due.due("lock", x.lock(), 0);
        Due.due("thick 0", x.cloth(0, 60), 4);
        Due.due("thick 1", x.cloth(1, 0), 0);
        // 20 and 20: 30 of 60.
        Due.due("lock of 60", x.tune(0), 101);
        x.cloth(1, 30);
        Due.due("45 of 90", x.lock(), 0);
        x.cloth(0, 45);
        Due.due("37 of 75", x.lock(), 0);
        x.cloth(0, 30);
        Due.due("30 of 60: between", x.lock(), 4);
        Due.due("the disc's tape stays", x.back(0), 2);
        Due.stitches(x, "the tape's disc", 0, 1, 2, 1);
        Due.due("the row's tape stays", x.at(1, 0), 5);
        Due.due("the tapes stay", x.clear(1), 4);
    }
}
