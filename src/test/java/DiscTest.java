/** Promises 6 to 13: discs. */
public final class DiscTest {
    public static void main(String[] args) {
        made();
        parted();
        measured();
        filed();
        makesThePattern();
        shelved();
        turned();
        Due.end("DiscTest");
    }

    private static void made() {
        CamStitch x = new CamStitch();
        Due.due("make of none", x.make(1, 1), -3);
        Due.due("make S 0, none", x.make(0, 1), -1);
        Due.read(x, 1, 0, 0, 6, 48, 0);
        Due.due("S 0", x.make(0, 1), -1);
        Due.due("S 13", x.make(13, 1), -1);
        Due.due("F 0", x.make(1, 0), -1);
        Due.due("F 13", x.make(1, 13), -1);
        Due.state("none made yet", () -> x.disc(0));
        Due.due("48", x.make(1, 1), 48);
        Due.due("4", x.make(1, 12), 4);
        Due.stitches(x, "F 12", 0, 12, 0, 12, 0, 12, 0, 12);
        Due.read(x, 1, 0, 0, 6, 49, 0);
        Due.due("49", x.make(12, 1), -2);
        Due.stitches(x, "after FULL", 0, 12, 0, 12, 0, 12, 0, 12);
        Due.due("25", x.make(12, 2), 25);
        Due.read(x, 1, -12, 0, 1, 12, 0, 6, 0, 0);
        Due.due("S 1 both ways", x.make(1, 12), 48);
        Due.read(x, 1, -12, 0, 1, 12, 0, 1, 12, 0, 6, 0, 0);
        Due.due("one more for no way", x.make(1, 12), -2);
        // The longest ways: 200 to the next point, 300 back to the first.
        Due.read(x, 1, 0, 100, 1, 0, -100, 6, 100, 0);
        Due.due("17 and 25", x.make(12, 12), 42);
    }

    private static void parted() {
        CamStitch x = new CamStitch();
        // dx 5, dy -7 by S 2, F 3: three parts. Then dx -5, dy 7 + 2 by S 2, F 3: three parts.
        Due.read(x, 1, -2, 3, 1, 3, -4, 6, 2, 0);
        Due.due("make", x.make(2, 3), 6);
        Due.stitches(x, "2, 3", -1, -3, 1, -2, 3, -2, 1, 3, -1, 3, -2, 3);
        Due.due("make", x.make(5, 2), 9);
        Due.stitches(x, "5, 2", -1, -2, 0, -2, 1, -2, 3, -1, 2, 1, 1, 2, 0, 2, -1, 2, -2, 2);
        Due.read(x, 1, 5, 0, 6, 0, 0);
        Due.due("no way at all", x.make(1, 1), 1);
        Due.stitches(x, "no way", 5, 0);
        // Just as far as S, and one more.
        Due.read(x, 1, 0, 0, 1, 4, 0, 6, 0, 0);
        Due.due("S 4", x.make(4, 1), 2);
        Due.due("S 3", x.make(3, 1), 4);
        Due.stitches(x, "S 3", 2, 0, 4, 0, 2, 0, 0, 0);
    }

    private static void measured() {
        CamStitch x = new CamStitch();
        Due.state("none", () -> x.disc(6));
        Due.argument("what 7, none", () -> x.disc(7));
        Due.argument("what -1", () -> x.disc(-1));
        Due.state("no stitch", () -> x.stitch(0, 1));
        Due.argument("no what, no stitch", () -> x.stitch(0, 2));
        Due.work(x, 3, 5, -4, -2, 1, 7, 10, -1);
        Due.due("stitches", x.disc(0), 4);
        Due.due("length", x.disc(1), 9);
        Due.due("steep", x.disc(2), 9);
        Due.due("greatest swing", x.disc(3), 10);
        Due.due("least swing", x.disc(4), -4);
        Due.due("greatest feed", x.disc(5), 7);
        Due.due("least feed", x.disc(6), -2);
        Due.argument("what 7", () -> x.disc(7));
        Due.argument("what -1", () -> x.disc(-1));
        Due.argument("stitch what -1", () -> x.stitch(0, -1));
        Due.argument("stitch what 2", () -> x.stitch(9, 2));
        Due.state("stitch -1", () -> x.stitch(-1, 0));
        Due.state("stitch 4", () -> x.stitch(4, 0));
        Due.work(x, -12, -3, -1, -2, -5, -7);
        Due.due("steep by the last to the first is 7, less than 11", x.disc(2), 11);
        Due.due("length", x.disc(1), -12);
        Due.due("greatest swing", x.disc(3), -1);
        Due.due("least swing", x.disc(4), -12);
        Due.due("greatest feed", x.disc(5), -2);
        Due.due("least feed", x.disc(6), -7);
        Due.work(x, -12, 0, 0, 0, 12, 0);
        Due.due("steep from the last to the first", x.disc(2), 24);
        Due.work(x, 7, 0);
        Due.due("one stitch is steep by 0", x.disc(2), 0);
        // What a greater disc left behind isn't looked at.
        CamStitch y = new CamStitch();
        Due.work(y, 3, 1, 12, 12, -12, -12);
        Due.read(y, 1, 3, 0, 6, 1, 0);
        Due.due("make", y.make(1, 1), 1);
        int[] due = {1, 1, 0, 3, 3, 1, 1};
        for (int what = 0; what < 7; what++) {
            Due.due("one stitch: " + what, y.disc(what), due[what]);
        }
        Due.due("one stitch makes it", y.makes(), 9999);
    }

    private static void filed() {
        CamStitch x = new CamStitch();
        Due.due("none at work", x.file(0, 0, 0), -1);
        Due.work(x, 1, 2, 3, 4);
        Due.due("j -1", x.file(-1, 0, 0), -1);
        Due.due("j 2", x.file(2, 0, 0), -1);
        Due.due("swing 13", x.file(0, 13, 0), -1);
        Due.due("swing -13", x.file(0, -13, 0), -1);
        Due.due("feed 13", x.file(0, 0, 13), -1);
        Due.due("feed -13", x.file(0, 0, -13), -1);
        Due.stitches(x, "refused", 1, 2, 3, 4);
        Due.due("file", x.file(0, -12, 12), 1);
        Due.due("file", x.file(1, 12, -12), 1);
        Due.stitches(x, "filed", -12, 12, 12, -12);
    }

    private static void makesThePattern() {
        CamStitch x = new CamStitch();
        Due.due("neither", x.makes(), -3);
        Due.read(x, 1, 0, 0, 1, 4, 0, 1, 4, 2, 6, 6, 0);
        Due.due("no disc", x.makes(), -3);
        Due.due("make", x.make(2, 1), 8);
        Due.due("as made", x.makes(), 9999);
        Due.stitches(x, "made", 2, 0, 4, 0, 4, 1, 4, 1, 3, 1, 2, 1, 1, 1, 0, 1);
        x.file(1, 5, 0);
        Due.due("the first isn't", x.makes(), 1);
        x.file(0, 4, 0);
        Due.due("an earlier stitch stands there", x.makes(), 9999);
        x.file(3, 3, 1);
        Due.due("the second isn't", x.makes(), 2);
        x.file(3, 4, 1);
        x.file(7, 1, 1);
        Due.due("the end isn't: another swing", x.makes(), 3);
        x.file(7, 0, 2);
        Due.due("the end isn't: another advance", x.makes(), 3);
        x.file(7, 0, 1);
        x.file(4, 2, 2);
        x.file(5, 1, 0);
        Due.due("other ways between", x.makes(), 9999);
        // Two points at one place want two stitches.
        Due.read(x, 1, 0, 0, 1, 2, 3, 1, 2, 3, 6, 3, 0);
        Due.due("make", x.make(12, 12), 3);
        Due.due("two at one place", x.makes(), 9999);
        x.file(0, 2, 2);
        x.file(1, 2, 1);
        Due.due("only one stitch there", x.makes(), 2);
        // The last stitch counts for a point that none before it stands at, and then not for the end.
        Due.read(x, 1, 0, 0, 1, 0, 3, 6, 3, 0);
        Due.due("make", x.make(12, 12), 2);
        Due.due("a point at the end's place", x.makes(), 9999);
        x.file(0, 0, 2);
        x.file(1, 0, 1);
        Due.due("only the last stitch is there", x.makes(), 2);
        x.file(1, 0, 2);
        Due.due("none is there", x.makes(), 1);
        // A point away from the end, stood at by the last stitch; with one point more, that isn't reached either.
        Due.work(x, -3, 3, -1, 1, 0, 1, 3, 1);
        Due.read(x, 1, 0, -3, 1, 3, 3, 6, 8, 0);
        Due.due("the last stitch is at the last point", x.makes(), 2);
        Due.read(x, 1, 0, -3, 1, 3, 3, 1, 3, 3, 6, 8, 0);
        Due.due("the last stitch is at the last point but one", x.makes(), 2);
        Due.read(x, 1, 0, -3, 1, 0, 2, 1, 3, 3, 6, 8, 0);
        Due.due("the last stitch is at the last of three points", x.makes(), 3);
        // A stitch before the last one that stands at the point leaves the last one to the end.
        Due.work(x, 3, 6, 0, 2);
        Due.read(x, 1, 0, -3, 1, 3, 3, 6, 8, 0);
        Due.due("the last stitch is left to the end", x.makes(), 9999);
        // The order of the points counts.
        Due.read(x, 1, 0, 0, 1, 1, 2, 1, 2, 1, 6, 3, 0);
        Due.work(x, 2, 1, 1, 1, 0, 1);
        Due.read(x, 1, 0, 0, 1, 1, 2, 1, 2, 1, 6, 3, 0);
        Due.due("the second is stood at too early", x.makes(), 2);
        // The first point's y is where the disc starts from.
        Due.read(x, 1, 3, -50, 6, -20, 0);
        Due.due("make", x.make(12, 12), 2);
        Due.due("one point", x.makes(), 9999);
        x.file(0, 3, -9);
        Due.due("one point's end", x.makes(), 1);
        // Less than one round: no stitch but the last.
        Due.read(x, 1, 0, 0, 1, 0, 0, 6, 0, 0);
        Due.due("make", x.make(1, 1), 2);
        CamStitch y = new CamStitch();
        Due.work(y, 0, 0);
        Due.read(y, 1, 0, 0, 1, 0, 0, 6, 0, 0);
        Due.due("the one stitch is for the point, none for the end", y.makes(), 2);
        y.begin();
        Due.due("after begin", y.makes(), -3);
    }

    private static void shelved() {
        CamStitch x = new CamStitch();
        Due.due("lay -1", x.lay(-1), -1);
        Due.due("lay 8", x.lay(8), -1);
        Due.due("lay none", x.lay(0), -3);
        Due.due("take -1", x.take(-1), -1);
        Due.due("take 8", x.take(8), -1);
        Due.due("take none", x.take(7), -3);
        Due.work(x, 1, 2, 3, 4);
        Due.due("lay", x.lay(0), 2);
        Due.due("lay", x.lay(7), 2);
        Due.due("shelves", x.count(1), 2);
        Due.stitches(x, "stays at work", 1, 2, 3, 4);
        Due.work(x, 5, 6, 7, 8, 9, 10);
        Due.due("lay on another", x.lay(0), 3);
        Due.due("shelves", x.count(1), 2);
        Due.due("take", x.take(7), 2);
        Due.stitches(x, "taken", 1, 2, 3, 4);
        Due.due("take", x.take(0), 3);
        Due.stitches(x, "taken", 5, 6, 7, 8, 9, 10);
        Due.due("it stays there", x.take(0), 3);
        Due.due("bare still", x.take(3), -3);
        Due.stitches(x, "refused", 5, 6, 7, 8, 9, 10);
        Due.work(x, 4, 4);
        Due.due("lay one stitch", x.lay(2), 1);
        Due.due("shelves", x.count(1), 3);
        Due.due("take", x.take(0), 3);
        // A shelf keeps the disc as it was laid: what is filed or turned is the one at work.
        x.file(0, 0, 0);
        x.turn(1, 1);
        Due.due("take", x.take(0), 3);
        Due.stitches(x, "as laid", 5, 6, 7, 8, 9, 10);
    }

    private static void turned() {
        CamStitch x = new CamStitch();
        Due.due("none at work", x.turn(0, 0), -1);
        Due.work(x, 1, 2, 3, 4, -5, 6);
        Due.due("j -1", x.turn(-1, 0), -1);
        Due.due("j 3", x.turn(3, 0), -1);
        Due.due("mirror -1", x.turn(0, -1), -1);
        Due.due("mirror 2", x.turn(0, 2), -1);
        Due.stitches(x, "refused", 1, 2, 3, 4, -5, 6);
        Due.due("turn", x.turn(1, 0), 1);
        Due.stitches(x, "from 1 on", 3, 4, -5, 6, 1, 2);
        Due.due("turn", x.turn(2, 1), 1);
        Due.stitches(x, "from 2 on, mirrored", -1, 2, -3, 4, 5, 6);
        Due.due("turn", x.turn(0, 1), 1);
        Due.stitches(x, "mirrored", 1, 2, 3, 4, -5, 6);
    }
}
