/** Edges of promises 13 to 17: what there is, tunes, bands, entries, ponds. */
public final class CountsEdgeTest {
    /** Six of each, so that every number up to the greatest is used. */
    private static final String SIX = "park 6 by 5;fade 9;rest 9;odds 16;tune ta loud 20 toll 9 beats 99;tune tb loud 0 toll 0 beats 1;"
        + "tune tc loud 1 toll 1;tune td loud 2 toll 2;tune te loud 3 toll 3;tune tf loud 4 toll 5 beats 7;"
        + "band ba at 0 0 strength 20 lips 99 plays ta tb tc td te tf;band bb at 5 4 strength 0 lips 0 plays hush;"
        + "band bc at 5 0 strength 1 lips 1;band bd at 0 4 strength 1 lips 2 plays tf;band be at 2 2 strength 1 lips 3 plays tb;"
        + "band bf at 3 2 strength 13 lips 8 plays ta;";

    public static void main(String[] args) throws Exception {
        Edge.begin(args);
        manyRefused();
        manyOfEach();
        cellsCounted();
        setsOfBands();
        tunes();
        bands();
        entries();
        ponds();
        Edge.end(13, 17);
    }

    private static void manyRefused() {
        Edge.promise(13, "that are TIRED (14) (5).");
        for (int no : Edge.NO_NUMBERS) {
            Edge.no("what", 5, x -> x.many(no));
        }
        Edge.no("15", 5, x -> x.many(15));
        Edge.no("16", 5, x -> x.many(16));
        for (int what = 0; what < 15; what++) {
            int asked = what;
            Edge.asks("many " + what, x -> x.many(asked));
        }
    }

    private static void manyOfEach() {
        Edge.promise(13, "WIDE (what 0), DEEP (1), TUNES (2), BANDS (3); FADE (4), REST (5), ODDS (6)");
        BandPark x = Check.made(SIX);
        int[] want = {6, 5, 6, 6, 9, 9, 16};
        for (int i = 0; i < want.length; i++) {
            Check.told("many " + i, x, x.many(i), want[i], 0);
        }
        x = Check.made("park 1 by 1;fade 0;rest 0;odds 0;");
        int[] least = {1, 1, 0, 0, 0, 0, 0};
        for (int i = 0; i < least.length; i++) {
            Check.told("many " + i, x, x.many(i), least[i], 0);
        }
        Edge.promise(13, "the HOUR (7), the WIND (0 to 3 as for wind; 4: CALM) (8), 1 if it rains, else 0 (9)");
        Check.told("hour 0", x, x.many(7), 0, 0);
        Check.told("calm", x, x.many(8), 4, 0);
        Check.told("dry", x, x.many(9), 0, 0);
        for (int i = 0; i < 101; i++) {
            x.hour(99);
        }
        Check.told("the last hour", x, x.many(7), 9999, 0);
        for (int to = 0; to < 4; to++) {
            x.wind(to);
            Check.told("wind", x, x.many(8), to, 0);
        }
        x.rain(true);
        Check.told("rain", x, x.many(9), 1, 0);
    }

    private static void cellsCounted() {
        Edge.promise(13, "how many CELLS are POND (10), BLUR NOW (11), SILENT NOW (12)");
        BandPark x = Check.made("park 3 by 1;fade 2;tune a loud 1 toll 0;band l at 0 0 strength 2 lips 0 plays a;band r at 2 0 strength 2 lips 0 plays a;");
        // 3 1 0 and 0 1 3
        Check.same("one blur", x.many(11) * 10 + x.many(12), 10);
        Check.told("no pond", x, x.many(10), 0, 0);
        x.rain(true);
        // 1 0 0 and 0 0 1
        Check.same("heard by 0 is no blur, but silent", x.many(11) * 10 + x.many(12), 1);
        x.drop(0);
        Check.same("two are silent", x.many(11) * 10 + x.many(12), 2);
        x.drop(1);
        Check.same("all are silent", x.many(11) * 10 + x.many(12), 3);
        x = Check.made("park 6 by 5;fade 0;tune a loud 1 toll 0;band l at 0 0 strength 2 lips 0 plays a;band r at 5 4 strength 2 lips 0 plays a;");
        Check.same("all are blurs", x.many(11) * 100 + x.many(12), 3000);
        x.train(0, 3);
        Check.same("none is", x.many(11) * 100 + x.many(12), 0);
        for (int i = 0; i < 30; i++) {
            x.dig(i % 6, i / 6, true);
        }
        Check.told("all are ponds", x, x.many(10), 30, 0);
    }

    private static void setsOfBands() {
        Edge.promise(13, "sets of BANDS (1 for BAND 0 ..) that PLAY a TUNE NOW (13), that are TIRED (14)");
        BandPark x = Check.made(SIX);
        // ba plays ta; bb wants hush, bc nothing; bd, bf have too few lips; be plays tb with toll 0
        Check.told("play", x, x.many(13), 1 + 16, 0);
        Check.told("tired", x, x.many(14), 8 + 32, 0);
        x.soothe(0, 9);
        Check.told("as many lips as the toll", x, x.many(13), 17, 0);
        x.soothe(0, 8);
        Check.told("one less", x, x.many(13), 16, 0);
        Check.told("one less", x, x.many(14), 1 + 8 + 32, 0);
        for (int b = 0; b < 6; b++) {
            x.set(b, 0, 1);
        }
        Check.told("all play", x, x.many(13), 63, 0);
        Check.told("none is tired", x, x.many(14), 0, 0);
        x.soothe(5, 8);
        for (int b = 0; b < 6; b++) {
            x.set(b, 0, 0);
        }
        Check.told("none plays", x, x.many(13), 0, 0);
        Check.told("all are tired", x, x.many(14), 63, 0);
        for (int b = 0; b < 6; b++) {
            x.set(b, 0, 6);
        }
        Check.told("who wants hush is not tired", x, x.many(14), 0, 0);
    }

    private static void tunes() {
        Edge.promise(14, "Of a TUNE, what 0: LOUD, 1: TOLL, 2: BEATS (2; 5).");
        for (int no : Edge.NO_NUMBERS) {
            Edge.no("tune", 2, x -> x.tune(no, 0));
            Edge.no("what", 5, x -> x.tune(0, no));
            Edge.no("2 ahead of 5", 2, x -> x.tune(no, no));
        }
        Edge.no("one behind the last", 2, x -> x.tune(3, 0));
        Edge.no("HUSH is no tune", 2, x -> x.tune(6, 0));
        Edge.no("3", 5, x -> x.tune(2, 3));
        Edge.asks("tune", x -> x.tune(2, 2));
        BandPark x = Check.made(SIX);
        int[] want = {20, 9, 99, 0, 0, 1, 1, 1, 4, 2, 2, 4, 3, 3, 4, 4, 5, 7};
        for (int i = 0; i < want.length; i++) {
            Check.told("tune", x, x.tune(i / 3, i % 3), want[i], 0);
        }
        Check.no("HUSH is none, though there are six", x, x.tune(6, 0), 2);
    }

    private static void bands() {
        Edge.promise(15, "6: how many ENTRIES its PROGRAMME has (2; 5).");
        for (int no : Edge.NO_NUMBERS) {
            Edge.no("band", 2, x -> x.band(no, 0));
            Edge.no("what", 5, x -> x.band(0, no));
            Edge.no("2 ahead of 5", 2, x -> x.band(no, no));
        }
        Edge.no("one behind the last", 2, x -> x.band(3, 0));
        Edge.no("7", 5, x -> x.band(2, 7));
        Edge.asks("band", x -> x.band(2, 6));
        BandPark x = Check.made(SIX);
        int[] first = {0, 0, 20, 99, 99, 0, 6};
        int[] second = {5, 4, 0, 0, 0, 0, 1};
        int[] last = {3, 2, 13, 8, 8, 0, 1};
        for (int what = 0; what < 7; what++) {
            Check.told("the first", x, x.band(0, what), first[what], 0);
            Check.told("the second", x, x.band(1, what), second[what], 0);
            Check.told("the last", x, x.band(5, what), last[what], 0);
        }
        Check.told("no entries", x, x.band(2, 6), 0, 0);
        Check.no("a seventh", x, x.band(6, 0), 2);
        Edge.promise(15, "3: LIPS, 4: the most that it ever has, 5: POINTS");
        x.hour(1);
        // be, heard by 1, holds its own cell alone; ba with 40 less 9 a step holds 13 cells but that one
        Check.same("less lips, the most stays", x.band(0, 3) * 100 + x.band(0, 4), 9099);
        x.soothe(0, 0);
        Check.same("no lips, the most stays", x.band(0, 3) * 100 + x.band(0, 4), 99);
        Check.yes("points", x.band(0, 5) > 0);
    }

    private static void entries() {
        Edge.promise(16, "the TUNE, or 6 for HUSH (2; 8: no such).");
        for (int no : Edge.NO_NUMBERS) {
            Edge.no("band", 2, x -> x.entry(no, 0));
            Edge.no("place", 8, x -> x.entry(0, no));
            Edge.no("2 ahead of 8", 2, x -> x.entry(no, no));
        }
        Edge.no("one behind the last", 2, x -> x.entry(3, 0));
        Edge.no("behind the last entry", 8, x -> x.entry(0, 2));
        Edge.no("of a programme of none", 8, x -> x.entry(2, 0));
        Edge.asks("entry", x -> x.entry(0, 1));
        BandPark x = Check.made(SIX);
        for (int k = 0; k < 6; k++) {
            Check.told("each", x, x.entry(0, k), k, 0);
        }
        Check.no("a seventh", x, x.entry(0, 6), 8);
        Check.told("hush", x, x.entry(1, 0), 6, 0);
        x.drop(0);
        Check.no("dropped", x, x.entry(0, 5), 8);
        Check.told("the one ahead of it", x, x.entry(0, 4), 4, 0);
    }

    private static void ponds() {
        Edge.promise(17, "1 if a CELL is POND, else 0 (2).");
        for (int no : Edge.NO_NUMBERS) {
            Edge.no("column", 2, x -> x.pond(no, 0));
            Edge.no("row", 2, x -> x.pond(0, no));
            Edge.no("both", 2, x -> x.pond(no, no));
        }
        Edge.no("WIDE", 2, x -> x.pond(4, 0));
        Edge.no("DEEP", 2, x -> x.pond(0, 3));
        Edge.asks("pond", x -> x.pond(3, 2));
        BandPark x = Check.made(Edge.PARK);
        for (int row = 0; row < 3; row++) {
            for (int column = 0; column < 4; column++) {
                boolean is = row == 1 && (column == 1 || column == 2);
                Check.told("pond", x, x.pond(column, row), is ? 1 : 0, 0);
            }
        }
        Check.no("3 3 is none, though 3 rows of 4 have room for it", x, x.pond(3, 3), 2);
        x = Check.made("park 1 by 5;pond 0 4;");
        Check.told("the last row", x, x.pond(0, 4), 1, 0);
        Check.no("a second column", x, x.pond(1, 3), 2);
        x = Check.made("park 6 by 1;pond 5 0;");
        Check.told("the last column", x, x.pond(5, 0), 1, 0);
        Check.no("a second row", x, x.pond(0, 1), 2);
    }
}
