/** Promises 14 to 20: hems. */
public final class HemTest {
    public static void main(String[] args) {
        sides();
        rounds();
        rests();
        meeting();
        fedOnTapes();
        judged();
        judgedInOrder();
        Due.end("HemTest");
    }

    private static void sides() {
        CamStitch x = new CamStitch();
        Due.due("length 0", x.side(0), -1);
        Due.due("length 1000", x.side(1000), -1);
        Due.due("length -1", x.side(-1), -1);
        Due.due("none yet", x.sideless(), 0);
        for (int i = 1; i <= 8; i++) {
            Due.due("side", x.side(i == 1 ? 1 : 999), i);
        }
        Due.due("a ninth", x.side(5), -2);
        Due.due("a ninth of no length", x.side(0), -1);
        Due.due("sides", x.count(2), 8);
        Due.due("sideless", x.sideless(), 8);
        Due.due("sides", x.count(2), 0);
        Due.due("side", x.side(5), 1);
    }

    private static void hemIs(CamStitch x, int i, int rounds, int rest, int fits, int stitches, int change) {
        Due.due("rounds of " + i, x.hem(i, 0), rounds);
        Due.due("rest of " + i, x.hem(i, 1), rest);
        Due.due("fits " + i, x.hem(i, 2), fits);
        Due.due("stitches of " + i, x.hem(i, 3), stitches);
        Due.due("change of " + i, x.hem(i, 4), change);
    }

    private static void rounds() {
        CamStitch x = new CamStitch();
        Due.argument("what 5, no side", () -> x.hem(0, 5));
        Due.argument("what -1, no side", () -> x.hem(0, -1));
        Due.state("no side", () -> x.hem(0, 0));
        Due.state("no side", () -> x.fed(0, 0));
        x.side(20);
        x.side(14);
        x.side(15);
        x.side(3);
        x.side(999);
        x.side(16);
        Due.state("no disc", () -> x.hem(0, 0));
        Due.state("no disc", () -> x.fed(0, 0));
        Due.work(x, 0, 7, 0, 3);
        hemIs(x, 0, 2, 0, 1, 4, 0);
        hemIs(x, 1, 1, 4, 1, 2, 2);
        // 15 is as near to one round as to two: the fewer.
        hemIs(x, 2, 1, 5, 1, 2, 3);
        // At least one round.
        hemIs(x, 3, 1, -7, 1, 2, 4);
        hemIs(x, 4, 100, -1, 1, 200, 1);
        hemIs(x, 5, 2, -4, 1, 4, 1);
        Due.state("side 6", () -> x.hem(6, 0));
        Due.state("side -1", () -> x.hem(-1, 0));
        Due.state("side -1", () -> x.fed(-1, 0));
        Due.state("side 6", () -> x.fed(6, 0));
        Due.state("stitch -1", () -> x.fed(0, -1));
        Due.state("stitch 4", () -> x.fed(0, 4));
        Due.argument("what ahead of the side", () -> x.hem(6, 5));
        // A length of 0, or below.
        x.file(0, 0, -3);
        Due.state("length 0", () -> x.hem(0, 0));
        Due.state("length 0", () -> x.fed(0, 0));
        x.file(0, 0, -4);
        Due.state("length -1", () -> x.hem(0, 3));
        x.file(0, 0, -2);
        hemIs(x, 0, 20, 0, 1, 40, 0);
    }

    private static void rests() {
        CamStitch x = new CamStitch();
        Due.work(x, 0, 5, 0, 1, 0, 4);
        x.side(14);
        hemIs(x, 0, 1, 4, 1, 3, 2);
        // 4/3 -> 1, 8/3 -> 2, 12/3 -> 4.
        Due.due("fed 0", x.fed(0, 0), 6);
        Due.due("fed 1", x.fed(0, 1), 2);
        Due.due("fed 2", x.fed(0, 2), 6);
        x.side(16);
        hemIs(x, 1, 2, -4, 1, 6, 1);
        // -4/6 -> -1, -8/6 -> -2, -2, -16/6 -> -3, -20/6 -> -4, -4.
        int[] due = {4, 0, 4, 4, 0, 4};
        for (int j = 0; j < 6; j++) {
            Due.due("fed 1, " + j, x.fed(1, j), due[j]);
        }
        x.side(3);
        hemIs(x, 2, 1, -7, 1, 3, 3);
        // -7/3 -> -3, -14/3 -> -5, -7.
        Due.due("fed 2, 0", x.fed(2, 0), 2);
        Due.due("fed 2, 1", x.fed(2, 1), -1);
        Due.due("fed 2, 2", x.fed(2, 2), 2);
        // One stitch.
        CamStitch z = new CamStitch();
        Due.work(z, 0, 9);
        z.side(5);
        z.side(21);
        hemIs(z, 0, 1, -4, 1, 1, 4);
        hemIs(z, 1, 2, 3, 1, 2, 2);
        Due.due("one stitch less 4", z.fed(0, 0), 5);
        Due.due("9 and 1", z.fed(1, 0), 10);
        Due.due("9 and 2", z.fed(1, 1), 11);
        Due.state("no more", () -> z.fed(0, 1));
        // The most stitches that a side can have.
        CamStitch y = new CamStitch();
        Due.read(y, 1, 0, 0, 6, 48, 0);
        y.make(1, 1);
        for (int j = 0; j < 47; j++) {
            y.file(j, 0, 0);
        }
        y.side(999);
        hemIs(y, 0, 999, 0, 1, 47952, 0);
        Due.due("the last", y.fed(0, 47951), 1);
        Due.state("one more", () -> y.fed(0, 47952));
    }

    private static void meeting() {
        CamStitch x = new CamStitch();
        Due.due("no sides, no disc", x.meets(), -3);
        x.side(24);
        Due.due("no disc", x.meets(), -3);
        Due.work(x, 0, 12, 0, 11);
        hemIs(x, 0, 1, 1, 1, 2, 1);
        Due.due("12 and 12", x.meets(), 1);
        x.side(25);
        hemIs(x, 1, 1, 2, 0, 2, 1);
        Due.due("13 and 12", x.meets(), 0);
        Due.due("13", x.fed(1, 0), 13);
        x.sideless();
        Due.due("no sides", x.meets(), -3);
        x.side(46);
        x.side(1);
        hemIs(x, 1, 1, -22, 1, 2, 11);
        Due.due("as it is", x.meets(), 1);
        Due.work(x, 0, 12, 0, -12, 0, 12);
        x.sideless();
        x.side(11);
        // -1/3 -> -1, -1, -1.
        hemIs(x, 0, 1, -1, 1, 3, 1);
        x.side(9);
        // The second of -3/3 each.
        hemIs(x, 1, 1, -3, 0, 3, 1);
        Due.due("-13", x.fed(1, 1), -13);
        Due.due("one doesn't fit", x.meets(), 0);
        x.file(0, 0, 0);
        Due.due("length 0", x.meets(), -3);
        Due.state("length 0", () -> x.hem(0, 2));
    }

    private static void fedOnTapes() {
        CamStitch x = new CamStitch();
        Due.due("no such tape", x.feeds(6, 0), -1);
        Due.due("no such tape", x.feeds(-1, 0), -1);
        Due.due("no side", x.feeds(0, 0), -3);
        x.side(25);
        Due.due("no disc", x.feeds(0, 0), -3);
        Due.work(x, 0, 12, 0, 11);
        Due.due("side 1", x.feeds(0, 1), -3);
        Due.due("side -1", x.feeds(0, -1), -3);
        Due.row(x, 0, 4, 7, 7, 7);
        Due.due("feeds", x.feeds(0, 0), 2);
        Due.due("13", x.at(0, 0), 13);
        Due.due("12", x.at(0, 1), 12);
        Due.state("no third", () -> x.at(0, 2));
        Due.due("shorts", x.clear(0), 2);
        Due.work(x, 0, 2, 0, 3);
        x.sideless();
        x.side(999);
        Due.due("400", x.feeds(0, 0), 400);
        Due.due("the first", x.at(0, 0), 1);
        Due.due("the second", x.at(0, 1), 3);
        x.side(5);
        Due.work(x, 0, 1, 0, 1, 0, 1);
        Due.due("999", x.feeds(0, 0), -2);
        Due.due("as it was", x.at(0, 399), 3);
        Due.due("6", x.feeds(0, 1), 6);
        Due.due("0", x.at(0, 0), 0);
        x.file(0, 0, -2);
        Due.due("length 0", x.feeds(0, 0), -3);
        // Exactly 401 stitches.
        CamStitch y = new CamStitch();
        Due.work(y, 0, 2);
        y.side(802);
        Due.due("401", y.feeds(0, 0), -2);
        y.side(800);
        Due.due("400", y.feeds(0, 1), 400);
    }

    private static void judged() {
        CamStitch x = new CamStitch();
        Due.work(x, 0, 5, 0, 1, 0, 4);
        x.side(14);
        x.side(16);
        x.feeds(0, 0);
        Due.due("as fed", x.judge(0, 0), 9999);
        Due.due("too far away for the other", x.judge(0, 1), 2);
        x.put(0, 0, 7);
        Due.due("the sum isn't", x.judge(0, 0), 3);
        x.put(0, 1, 1);
        Due.due("another that holds", x.judge(0, 0), 9999);
        x.put(0, 0, 8);
        Due.due("3 away", x.judge(0, 0), 0);
        x.put(0, 0, 3);
        Due.due("2 away below", x.judge(0, 0), 3);
        x.put(0, 0, 2);
        Due.due("3 away below", x.judge(0, 0), 0);
        x.put(0, 0, 7);
        x.put(0, 2, 1);
        Due.due("the third", x.judge(0, 0), 2);
        // What is beyond isn't looked at.
        Due.row(x, 1, 2, 6, 2, 6, 99, 1);
        Due.due("more than as many", x.judge(1, 0), 9999);
        Due.due("more, of the other's sum", x.judge(1, 1), 2);
        // Of the other side: 6 stitches, at most 1 away, 16 in all.
        Due.row(x, 1, 2, 4, 0, 4, 4, 0, 4);
        Due.due("the other", x.judge(1, 1), 9999);
        Due.row(x, 1, 2, 4, 0, 4, 4, 0);
        Due.due("one too few", x.judge(1, 1), -13);
        Due.row(x, 1, 2, 4, 0, 4, 4, 9);
        Due.due("too few, and one isn't so", x.judge(1, 1), 4);
        Due.row(x, 1, 2);
        Due.due("none", x.judge(1, 1), -13);
        Due.due("refusals", x.count(5), 2);
        // -12 .. 12 each, whatever the change.
        Due.work(x, 0, 12, 0, 12);
        x.sideless();
        x.side(26);
        x.feeds(2, 0);
        Due.due("13 is above 12", x.judge(2, 0), 0);
        Due.row(x, 2, 2, 12, 12);
        Due.due("24 isn't 26", x.judge(2, 0), 2);
        Due.work(x, 0, -12, 0, 12, 0, 1);
        x.sideless();
        x.side(2);
        Due.row(x, 2, 2, -13, 12, 1);
        Due.due("-13 is below -12", x.judge(2, 0), 0);
        Due.row(x, 2, 2, -11, 12, 1);
        hemIs(x, 0, 2, 0, 1, 6, 0);
        Due.due("away from the disc's", x.judge(2, 0), 0);
    }

    private static void judgedInOrder() {
        CamStitch x = new CamStitch();
        Due.due("no such tape", x.judge(6, 0), -1);
        Due.due("no such tape", x.judge(-1, 0), -1);
        Due.due("no side", x.judge(0, 0), -3);
        x.side(5);
        Due.due("no disc", x.judge(0, 0), -3);
        Due.work(x, 0, 5);
        Due.due("nothing", x.judge(0, 0), -11);
        Due.due("no such side", x.judge(0, 1), -3);
        for (int sort = 1; sort <= 4; sort++) {
            x.tape(0, sort, 0);
            Due.due("sort " + sort, x.judge(0, 0), sort == 2 ? -13 : -12);
        }
        x.keep(0);
        Due.due("a disc", x.judge(0, 0), -12);
        Due.due("refusals", x.count(5), 6);
        x.file(0, 0, 0);
        Due.due("length 0", x.judge(0, 0), -3);
        Due.due("length 0, and nothing", x.judge(1, 0), -3);
    }
}
