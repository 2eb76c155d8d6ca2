/** Promises 32 to 34: rims. */
public final class RimTest {
    public static void main(String[] args) {
        refused();
        ordered();
        worn();
        lengths();
        Due.end("RimTest");
    }

    private static void refused() {
        CamStitch x = new CamStitch();
        int[] wrong = {-1, 6};
        for (int d : wrong) {
            Due.due("names of no tape", x.names(d, 0), -1);
            Due.due("name of no tape", x.name(d, 0, 0), -1);
            Due.due("wear of no tape", x.wear(d), -1);
        }
        Due.due("wear -1, nothing held", x.names(0, -1), -1);
        Due.due("wear 7, nothing held", x.names(0, 7), -1);
        Due.due("wear -1, nothing held", x.name(0, -1, 0), -1);
        Due.due("wear 7, nothing held", x.name(0, 7, 0), -1);
        Due.due("a name below 0, nothing held", x.name(0, 0, -1), -1);
        Due.due("the least number, nothing held", x.name(0, 0, Integer.MIN_VALUE), -1);
        Due.due("no refusals of the host's", x.count(5), 0);
        Due.due("nothing", x.names(0, 0), -11);
        Due.due("nothing", x.name(0, 0, 0), -11);
        Due.due("nothing", x.wear(0), -11);
        for (int sort = 2; sort <= 4; sort++) {
            x.tape(0, sort, 3);
            Due.due("sort " + sort, x.names(0, 0), -12);
            Due.due("sort " + sort, x.name(0, 0, 0), -12);
            Due.due("a name below 0, sort " + sort, x.name(0, 0, -1), -1);
            Due.due("sort " + sort, x.wear(0), -12);
        }
        Due.work(x, 0, 0);
        x.keep(1);
        Due.due("a disc", x.names(1, 0), -12);
        Due.due("refusals", x.count(5), 13);
        x.tape(0, 1, 0);
        Due.due("empty", x.names(0, 0), -4);
        Due.due("empty", x.name(0, 0, 0), -4);
        Due.due("a name below 0, empty", x.name(0, 0, -1), -1);
        Due.due("empty", x.wear(0), -4);
        x.tape(0, 1, 49);
        Due.due("49", x.names(0, 6), -4);
        Due.due("49", x.name(0, 6, 0), -4);
        Due.due("49", x.wear(0), -4);
        Due.due("49, wear 7", x.names(0, 7), -1);
        x.tape(0, 1, 48);
        Due.due("48, bare shelves", x.names(0, 6), 0);
        Due.due("48, bare shelves", x.name(0, 6, 0), -1);
        Due.due("48, bare shelves", x.wear(0), -4);
        x.lay(5);
        Due.due("48", x.names(0, 0), 2);
        Due.due("refusals as they were", x.count(5), 13);
    }

    private static void ordered() {
        CamStitch x = new CamStitch();
        Due.work(x, 1, 0, 2, 0, 3, 0, 2, 0);
        x.lay(6);
        Due.work(x, 3, 0, 2, 0);
        x.lay(2);
        Due.row(x, 0, 1, 2, 3);
        Due.due("2, 3", x.names(0, 0), 4);
        Due.due("shelf 2, way 1", x.name(0, 0, 0), 2001);
        Due.due("shelf 2, way -1", x.name(0, 0, 1), 2101);
        Due.due("shelf 6, way 1", x.name(0, 0, 2), 6001);
        Due.due("shelf 6, way -1", x.name(0, 0, 3), 6103);
        Due.due("no more", x.name(0, 0, 4), -1);
        Due.due("none before", x.name(0, 0, -1), -1);
        Due.row(x, 0, 1, 2, -128, 2);
        Due.due("2, missing, 2", x.names(0, 0), 6);
        int[] due = {2001, 2101, 6001, 6003, 6101, 6103};
        for (int i = 0; i < 6; i++) {
            Due.due("2, missing, 2: " + i, x.name(0, 0, i), due[i]);
        }
        Due.row(x, 0, 1, -128, -128, -128, -128, -128);
        Due.due("all missing", x.names(0, 3), 12);
        Due.due("the last of all", x.name(0, 3, 11), 6103);
        Due.due("shelf 6's first", x.name(0, 3, 4), 6000);
        Due.due("all missing isn't worn", x.wear(0), 0);
        // Longer than the disc: round and round.
        Due.row(x, 0, 1, 2, 3, 2, 1, 2, 3);
        Due.due("round", x.names(0, 0), 2);
        Due.due("forth", x.name(0, 0, 0), 6001);
        Due.due("back", x.name(0, 0, 1), 6103);
        Due.row(x, 0, 1, 2, 3, 2, 1, 2, 2);
        Due.due("not round", x.names(0, 0), 0);
        Due.row(x, 0, 1, 2, 3, 2, 3, 2);
        Due.due("shelf 2 alone", x.names(0, 0), 2);
        Due.due("forth", x.name(0, 0, 0), 2001);
    }

    private static void worn() {
        CamStitch x = new CamStitch();
        Due.work(x, -12, 0, 12, 0, 0, 0);
        x.lay(0);
        Due.row(x, 0, 1, -18, 6, -6);
        for (int w = 0; w < 6; w++) {
            Due.due("worn less", x.names(0, w), 0);
        }
        Due.due("worn by 6", x.names(0, 6), 1);
        Due.due("its name", x.name(0, 6, 0), 0);
        Due.due("wear", x.wear(0), 6);
        Due.due("none by 5", x.name(0, 5, 0), -1);
        Due.row(x, 0, 1, -12, 12, 1);
        Due.due("above the swing", x.names(0, 6), 0);
        Due.due("none does", x.wear(0), -4);
        Due.row(x, 0, 1, -13, 9, -128);
        Due.due("1 and 3", x.wear(0), 3);
        Due.row(x, 0, 1, -12, 12);
        Due.due("not worn", x.wear(0), 0);
        Due.row(x, 0, 1, 5);
        Due.due("7", x.wear(0), -4);
        Due.row(x, 0, 1, -127);
        Due.due("far below", x.wear(0), -4);
        Due.row(x, 0, 1, 127);
        Due.due("far above", x.names(0, 6), 0);
    }

    private static void lengths() {
        CamStitch x = new CamStitch();
        Due.read(x, 1, 0, 0, 6, 48, 0);
        x.make(1, 1);
        x.file(17, 5, 0);
        x.lay(7);
        long[] rim = new long[48];
        rim[47] = 5;
        Due.row(x, 0, 1, rim);
        Due.due("48 of 48", x.names(0, 0), 2);
        Due.due("forth", x.name(0, 0, 0), 7018);
        Due.due("back", x.name(0, 0, 1), 7116);
        x.put(0, 47, 0);
        Due.due("the 5 is worn", x.wear(0), 5);
        x.put(0, 47, 6);
        Due.due("none", x.wear(0), -4);
    }
}
