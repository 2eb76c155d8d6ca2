/** Promises 3 to 5: patterns told in their language. */
public final class PatternTest {
    /** A new one for each part of the test, as an object is for 512 calls. */
    private static CamStitch x;

    public static void main(String[] args) {
        wrongTapes();
        points();
        numbers();
        origins();
        times();
        ends();
        readAsTheyCome();
        Due.end("PatternTest");
    }

    private static void reads(long want, long... orders) {
        Due.due("read " + java.util.Arrays.toString(orders), Due.read(x, orders), want);
    }

    private static void wrongTapes() {
        CamStitch y = new CamStitch();
        Due.due("read(-1)", y.read(-1), -1);
        Due.due("read(6)", y.read(6), -1);
        Due.due("read(0)", y.read(0), -11);
        for (int sort = 2; sort <= 4; sort++) {
            y.tape(0, sort, 7);
            Due.due("read of sort " + sort, y.read(0), -12);
        }
        Due.due("no pattern", y.count(0), 0);
        Due.state("advance of none", () -> y.advance());
        Due.state("point of none", () -> y.point(0, 0));
        Due.work(y, 0, 1);
        y.keep(0);
        Due.due("read of a disc", y.read(0), -12);
        Due.due("refusals", y.count(5), 5);
        y.tape(0, 1, 0);
        Due.due("read of an empty row", y.read(0), -100);
    }

    private static void points() {
        x = new CamStitch();
        reads(2, 1, -12, 100, 1, 12, -100, 6, -100, 0);
        Due.due("x 0", x.point(0, 0), -12);
        Due.due("y 0", x.point(0, 1), 100);
        Due.due("x 1", x.point(1, 0), 12);
        Due.due("y 1", x.point(1, 1), -100);
        Due.due("advance", x.advance(), -100);
        Due.state("point 2", () -> x.point(2, 0));
        Due.state("point -1", () -> x.point(-1, 1));
        Due.argument("what 2", () -> x.point(0, 2));
        Due.argument("what -1", () -> x.point(0, -1));
        Due.argument("what ahead of k", () -> x.point(99, 2));
        // Each of these is a fault, and what was read before stays.
        reads(-100, 1, 13, 0, 6, 1, 0);
        reads(-100, 1, -13, 0, 6, 1, 0);
        reads(-100, 1, 0, 101, 6, 1, 0);
        reads(-100, 1, 0, -101, 6, 1, 0);
        Due.due("points after faults", x.count(0), 2);
        Due.due("x 1 after faults", x.point(1, 0), 12);
        Due.due("advance after faults", x.advance(), -100);
        long[] many = new long[3 * 25 + 3];
        for (int i = 0; i < 25; i++) {
            many[3 * i] = 1;
        }
        many[72] = 6;
        many[73] = 5;
        many[74] = 0;
        reads(24, many);
        many[72] = 1;
        many[73] = 0;
        many[75] = 6;
        reads(-172, many);
    }

    private static void numbers() {
        x = new CamStitch();
        reads(-100, 7, 0, 0);
        reads(-100, -1, 0, 0);
        reads(-103, 1, 0, 0, 127);
        reads(-100, 1);
        reads(-100, 1, 2);
        reads(-103, 1, 1, 1, 2, 1);
        reads(-103, 1, 1, 1, 4);
        reads(-103, 1, 1, 1, 6);
        reads(-103, 1, 1, 1, 6, 101, 0);
        reads(-103, 1, 1, 1, 6, -101, 0);
        reads(1, 1, 1, 1, 6, 100, 0);
        Due.due("advance 100", x.advance(), 100);
        reads(1, 1, 1, 1, 6, 100, 6, -7, 0, 6, 9);
        Due.due("the last advance", x.advance(), -7);
    }

    private static void origins() {
        x = new CamStitch();
        reads(3, 2, 5, 7, 1, 1, 1, 3, 2, 2, 3, 1, 4, 4, 3, 1, 0, 0, 6, 0, 0);
        Due.due("x 0", x.point(0, 0), 6);
        Due.due("y 0", x.point(0, 1), 8);
        Due.due("x 1", x.point(1, 0), -1);
        Due.due("y 1", x.point(1, 1), 14);
        Due.due("x 2", x.point(2, 0), 3);
        Due.due("y 2", x.point(2, 1), 10);
        reads(1, 2, 100, 100, 2, -100, -100, 2, -100, -100, 2, 100, 100, 1, 0, 0, 6, 0, 0);
        reads(-100, 2, 101, 0, 0);
        reads(-100, 2, 0, 101, 0);
        reads(-103, 2, -100, 0, 2, -1, 0, 0);
        reads(-103, 2, 0, -100, 2, 0, -1, 0);
        reads(-103, 2, 100, 0, 2, 1, 0, 0);
        reads(-101, 3, 2, -101, 0, 0);
        reads(1, 2, 20, 0, 1, -10, 5, 6, 0, 0);
        Due.due("x by the origin", x.point(0, 0), 10);
        reads(-103, 2, 20, 0, 1, 0, 5, 6, 0, 0);
        // A fault in one reading leaves no origin, mirror or advance for the next.
        reads(-110, 3, 2, 9, 9, 6, 4, 3, 1, 0, 0, 99);
        reads(-103, 1, 1, 0, 0);
        reads(1, 1, 1, 0, 6, 0, 0);
        Due.due("x from the origin", x.point(0, 0), 1);
        Due.due("y from the origin", x.point(0, 1), 0);
    }

    private static void times() {
        x = new CamStitch();
        reads(9, 4, 9, 1, 0, 0, 2, 1, 2, 5, 6, 3, 0);
        Due.due("x of the ninth", x.point(8, 0), 8);
        Due.due("y of the ninth", x.point(8, 1), 16);
        reads(1, 4, 1, 1, 0, 0, 5, 6, 3, 0);
        reads(-100, 4, 0, 1, 0, 0, 5, 6, 3, 0);
        reads(-100, 4, -1, 1, 0, 0, 5, 6, 3, 0);
        reads(-100, 4, 10, 1, 0, 0, 5, 6, 3, 0);
        reads(12, 4, 2, 4, 3, 4, 2, 1, 1, 0, 5, 2, 0, 1, 5, 5, 6, 3, 0);
        Due.due("y of the eleventh", x.point(10, 1), 5);
        reads(-106, 4, 1, 4, 1, 4, 1, 4, 1, 1, 0, 0, 5, 5, 5, 5, 6, 0, 0);
        reads(2, 4, 1, 4, 1, 4, 1, 5, 4, 1, 5, 1, 0, 0, 5, 5, 4, 1, 1, 0, 0, 5, 6, 0, 0);
        reads(-103, 1, 0, 0, 5, 6, 0, 0);
        reads(-106, 4, 2, 1, 0, 0, 5, 5, 6, 0, 0);
        reads(-107, 6, 1, 4, 2, 1, 0, 0, 0);
        reads(1, 4, 9, 4, 9, 4, 9, 3, 5, 5, 5, 1, 5, 0, 6, 0, 0);
        Due.due("mirrored 729 times", x.point(0, 0), -5);
        // The longest reading: 388 orders 729 times, and no end behind.
        long[] longest = new long[400];
        java.util.Arrays.fill(longest, 3);
        for (int i = 0; i < 3; i++) {
            longest[2 * i] = 4;
            longest[2 * i + 1] = 9;
            longest[397 + i] = 5;
        }
        x = new CamStitch();
        reads(-500, longest);
        longest[388] = 5;
        longest[389] = 5;
        longest[390] = 5;
        longest[391] = 1;
        longest[392] = 2;
        longest[393] = 3;
        longest[394] = 6;
        longest[395] = 3;
        longest[396] = 0;
        x = new CamStitch();
        reads(1, longest);
        Due.due("mirrored 382 times 729", x.point(0, 0), 2);
    }

    private static void ends() {
        x = new CamStitch();
        reads(-100, 0);
        reads(-102, 6, 1, 0);
        reads(-103, 1, 1, 1, 0);
        reads(-105, 1, 1, 1, 6, 1);
        reads(-107, 4, 1, 1, 1, 1, 6, 1);
        reads(1, 1, 1, 1, 6, 1, 0, 99, 99);
    }

    private static void readAsTheyCome() {
        x = new CamStitch();
        // A point that is as said at first and not when it comes again: its own place, though 99 stands behind.
        reads(-102, 4, 9, 1, 0, 0, 2, 4, 0, 5, 99);
        reads(-105, 4, 9, 1, 0, 0, 2, 0, 60, 5, 99);
        // The 25th point comes in the third of the times.
        long[] orders = {4, 3, 4, 9, 1, 0, 0, 5, 5, 6, 0, 0};
        reads(-104, orders);
    }
}
