/** IV, SHELVES and RIMS, and promises 32 to 34: each sentence that names a boundary, on both of its sides. */
public final class RimEdgeTest {
    public static void main(String[] args) {
        from1To48Readings();
        missingIsMinus128();
        fitsFromWearToTheSwing();
        wearFrom0To6();
        allReadingsFit();
        startsFrom0();
        oneStitch();
        moduloN();
        inTheOrderOfShelves();
        asManyAsCanBe();
        theLeastWear();
        noneNames();
        Due.end("RimEdgeTest");
    }

    /** A room with a DISC of these SWINGS on a shelf. */
    private static CamStitch shelved(int shelf, int... swings) {
        CamStitch x = new CamStitch();
        lays(x, shelf, swings);
        return x;
    }

    private static void lays(CamStitch x, int shelf, int... swings) {
        int[] stitches = new int[2 * swings.length];
        for (int j = 0; j < swings.length; j++) {
            stitches[2 * j] = swings[j];
        }
        Due.work(x, stitches);
        Due.due("lay", x.lay(shelf), swings.length);
    }

    private static void namesAre(CamStitch x, int wear, int... due) {
        Due.due("names by " + wear, x.names(0, wear), due.length);
        for (int i = 0; i < due.length; i++) {
            Due.due("name " + i + " by " + wear, x.name(0, wear, i), due[i]);
        }
        Due.due("no more names", x.name(0, wear, due.length), -1);
        Due.due("none before", x.name(0, wear, -1), -1);
        Due.due("far beyond", x.name(0, wear, Integer.MAX_VALUE), -1);
    }

    /** "a row of bytes of 1 .. 48 readings"; "UNABLE: it has no elements, or more than 48" */
    private static void from1To48Readings() {
        int[] lengths = {0, 1, 2, 47, 48, 49, 50, 256 + 1, 400};
        for (int n : lengths) {
            CamStitch x = shelved(3, 0, 0);
            x.tape(0, 1, n);
            boolean is = n >= 1 && n <= 48;
            Due.due("names of " + n, x.names(0, 0), is ? 4 : -4);
            Due.due("name of " + n, x.name(0, 0, 3), is ? 3101 : -4);
            Due.due("no name of " + n, x.name(0, 0, 4), is ? -1 : -4);
            Due.due("wear of " + n, x.wear(0), is ? 0 : -4);
            Due.due("a number below 0 of " + n, x.name(0, 0, -1), -1);
            Due.due("no wear of " + n, x.names(0, 7), -1);
            Due.due("no refusals of the host's", x.count(5), 0);
            x.take(3);
            x.begin();
            Due.due("bare shelves, names of " + n, x.names(0, 6), is ? 0 : -4);
            Due.due("bare shelves, name of " + n, x.name(0, 6, 0), is ? -1 : -4);
            Due.due("bare shelves, wear of " + n, x.wear(0), -4);
        }
    }

    /** "some missing (-128)" */
    private static void missingIsMinus128() {
        CamStitch x = shelved(1, 12, -12);
        Due.row(x, 0, 1, -128);
        namesAre(x, 0, 1000, 1001, 1100, 1101);
        Due.due("wear", x.wear(0), 0);
        Due.row(x, 0, 1, -127);
        namesAre(x, 6);
        Due.due("wear", x.wear(0), -4);
        // 128 is -128 in a byte.
        Due.row(x, 0, 1, 128, -12);
        namesAre(x, 0, 1000, 1100);
        long[] missing = new long[48];
        java.util.Arrays.fill(missing, -128);
        Due.row(x, 0, 1, missing);
        namesAre(x, 0, 1000, 1001, 1100, 1101);
        x.put(0, 47, 12);
        // Place 47 is the SWING of the other STITCH than the START's.
        namesAre(x, 0, 1001, 1101);
        x.put(0, 0, 12);
        namesAre(x, 6);
    }

    /** "A READING fits a SWING w if it is from w - WEAR to w" */
    private static void fitsFromWearToTheSwing() {
        for (int w = -12; w <= 12; w++) {
            CamStitch x = shelved(0, w);
            for (int wear = 0; wear <= 6; wear++) {
                for (int r = w - 8; r <= w + 2; r++) {
                    x.tape(0, 1, 1);
                    x.put(0, 0, r);
                    Due.due(r + " for " + w + " by " + wear, x.names(0, wear), r >= w - wear && r <= w ? 2 : 0);
                }
                if (wear == 3) {
                    x = shelved(0, w);
                }
            }
        }
        CamStitch x = shelved(0, -12);
        int[] far = {-127, -19, -11, 0, 12, 127};
        for (int r : far) {
            Due.row(x, 0, 1, r);
            Due.due(r + " for -12 by 6", x.names(0, 6), 0);
        }
    }

    /** "(WEAR 0 .. 6)" */
    private static void wearFrom0To6() {
        CamStitch x = shelved(0, 6);
        Due.row(x, 0, 1, 0);
        int[] wears = {Integer.MIN_VALUE, -1, 0, 5, 6, 7, 8, 256, Integer.MAX_VALUE};
        for (int wear : wears) {
            int due = wear < 0 || wear > 6 ? -1 : wear == 6 ? 2 : 0;
            Due.due("names by " + wear, x.names(0, wear), due);
            Due.due("name by " + wear, x.name(0, wear, 0), wear == 6 ? 0 : -1);
        }
        Due.due("wear", x.wear(0), 6);
        // WEAR is looked at ahead of what the TAPE holds.
        Due.due("nothing held, wear 7", x.names(1, 7), -1);
        Due.due("nothing held, wear 6", x.names(1, 6), -11);
        x.keep(1);
        Due.due("a disc held, wear -1", x.name(1, -1, 0), -1);
        Due.due("a disc held, wear 0", x.name(1, 0, 0), -12);
        Due.due("a disc held", x.wear(1), -12);
        Due.due("refusals", x.count(5), 3);
    }

    /** "for all i": the first, one within and the last count alike. */
    private static void allReadingsFit() {
        for (int i = 0; i < 5; i++) {
            CamStitch x = shelved(2, 1, 3, 6, 10, 12);
            Due.row(x, 0, 1, 1, 3, 6, 10, 12);
            namesAre(x, 0, 2000);
            long were = x.at(0, i);
            x.put(0, i, were + 1);
            namesAre(x, 0);
            x.put(0, i, were - 1);
            namesAre(x, 0);
            namesAre(x, 1, 2000);
            x.put(0, i, -128);
            namesAre(x, 0, 2000);
        }
    }

    /** "a START a (0 .. N - 1) and a WAY (1 or -1)": "its i-th reading ... the SWING of STITCH (a + WAY i) modulo N" */
    private static void startsFrom0() {
        int[] swings = {1, 2, 4, 7};
        CamStitch x = shelved(5, swings);
        for (int a = 0; a < 4; a++) {
            Due.row(x, 0, 1, swings[a], swings[(a + 1) % 4], swings[(a + 2) % 4]);
            namesAre(x, 0, 5000 + a);
            Due.row(x, 0, 1, swings[a], swings[(a + 3) % 4], swings[(a + 2) % 4]);
            namesAre(x, 0, 5100 + a);
            Due.row(x, 0, 1, swings[a]);
            namesAre(x, 0, 5000 + a, 5100 + a);
        }
    }

    /** N 1: one START, and both WAYS. */
    private static void oneStitch() {
        CamStitch x = shelved(7, -3);
        Due.row(x, 0, 1, -3, -3, -3);
        namesAre(x, 0, 7000, 7100);
        Due.row(x, 0, 1, -3, -4, -3);
        namesAre(x, 0);
        namesAre(x, 1, 7000, 7100);
        long[] rim = new long[48];
        java.util.Arrays.fill(rim, -3);
        Due.row(x, 0, 1, rim);
        namesAre(x, 0, 7000, 7100);
        x.put(0, 47, -2);
        namesAre(x, 6);
    }

    private static void moduloN() {
        int[] swings = {0, 5, 9};
        for (int n = 1; n <= 3; n++) {
            CamStitch x = shelved(0, java.util.Arrays.copyOf(swings, n));
            long[] forth = new long[48];
            long[] back = new long[48];
            for (int i = 0; i < 48; i++) {
                forth[i] = swings[(n - 1 + i) % n];
                back[i] = swings[Math.floorMod(n - 1 - i, n)];
            }
            int last = n - 1;
            Due.row(x, 0, 1, forth);
            Due.due("forth from the last of " + n, x.name(0, 0, 0), last);
            Due.due("names of " + n, x.names(0, 0), n < 3 ? 2 : 1);
            Due.row(x, 0, 1, back);
            Due.due("back from the last of " + n, x.name(0, 0, n < 3 ? 1 : 0), 100 + last);
            Due.due("names of " + n, x.names(0, 0), n < 3 ? 2 : 1);
        }
        // A RIM of fewer readings than STITCHES: the rest may be anything.
        CamStitch x = shelved(0, 4, 4, 8, 4);
        Due.row(x, 0, 1, 4, 4);
        namesAre(x, 0, 0, 3, 100, 101);
        Due.row(x, 0, 1, 4, 4, 4, 8, 4, 4, 4, 8);
        namesAre(x, 0, 3, 101);
    }

    /** "Names are in the order of shelves, then WAYS (1 first), then STARTS." */
    private static void inTheOrderOfShelves() {
        CamStitch x = shelved(7, 1, 2);
        lays(x, 0, 2, 1, 2);
        lays(x, 4, 1);
        Due.row(x, 0, 1, 1);
        namesAre(x, 0, 1, 101, 4000, 4100, 7000, 7100);
        Due.row(x, 0, 1, 2, -128);
        namesAre(x, 0, 0, 2, 100, 102, 7001, 7101);
        namesAre(x, 6, 0, 2, 100, 102, 7001, 7101);
        Due.row(x, 0, 1, 1, -128);
        namesAre(x, 1, 0, 1, 2, 100, 101, 102, 4000, 4100, 7000, 7001, 7100, 7101);
    }

    /** 8 shelves of 48 STITCHES, by both WAYS. */
    private static void asManyAsCanBe() {
        CamStitch x = new CamStitch();
        Due.read(x, 1, 0, 0, 6, 48, 0);
        x.make(1, 1);
        for (int k = 0; k < 8; k++) {
            x.lay(k);
        }
        x.tape(0, 1, 48);
        Due.due("names", x.names(0, 0), 768);
        for (int i = 0; i < 768; i += i < 760 ? 5 : 1) {
            Due.due("name " + i, x.name(0, 0, i), 1000 * (i / 96) + 100 * (i % 96 / 48) + i % 48);
        }
        Due.due("name 767", x.name(0, 0, 767), 7147);
        Due.due("name 768", x.name(0, 0, 768), -1);
        Due.due("one reading", x.tape(0, 1, 1), 1);
        Due.due("names by one", x.names(0, 6), 768);
        x.put(0, 0, 1);
        Due.due("no names by another", x.names(0, 6), 0);
    }

    /** "The least WEAR (0 .. 6) by which the RIM NAMES something." */
    private static void theLeastWear() {
        for (int worn = -1; worn <= 7; worn++) {
            CamStitch x = shelved(6, 5, -5);
            Due.row(x, 0, 1, 5 - worn, -128);
            Due.due("wear of " + worn, x.wear(0), worn < 0 || worn > 6 ? -4 : worn);
            Due.row(x, 0, 1, 5, -5 - worn);
            Due.due("wear of 0 and " + worn, x.wear(0), worn < 0 || worn > 6 ? -4 : worn);
            Due.due("no refusals of the host's", x.count(5), 0);
        }
        // The shelf that is worn least counts, not the first.
        CamStitch x = shelved(0, 9);
        lays(x, 3, 6);
        lays(x, 7, 5);
        Due.row(x, 0, 1, 4);
        Due.due("5, 2 or 1", x.wear(0), 1);
        namesAre(x, 1, 7000, 7100);
        namesAre(x, 2, 3000, 3100, 7000, 7100);
    }

    private static void noneNames() {
        CamStitch x = new CamStitch();
        Due.row(x, 0, 1, -128);
        Due.due("bare shelves", x.wear(0), -4);
        namesAre(x, 6);
        lays(x, 0, 3);
        x.tape(0, 1, 1);
        x.put(0, 0, 4);
        Due.due("above", x.wear(0), -4);
        namesAre(x, 6);
        x.put(0, 0, -4);
        Due.due("7 below", x.wear(0), -4);
        x.put(0, 0, -3);
        Due.due("6 below", x.wear(0), 6);
        // The DISC at work, on no shelf, isn't named.
        Due.work(x, 4, 0);
        x.put(0, 0, 4);
        Due.due("at work alone", x.names(0, 0), 0);
    }
}
