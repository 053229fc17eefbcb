/** Edges of promises 28 to 34: what is played, HEARD and HELD NOW. */
public final class NowEdgeTest {
    public static void main(String[] args) throws Exception {
        Edge.begin(args);
        plays();
        heardRefused();
        heardByFade();
        heardByWind();
        heardByRain();
        heardWhateverLips();
        loudest();
        holder();
        held();
        lawns();
        ponds();
        copies();
        copiesCut();
        Edge.end(28, 34);
    }

    private static void plays() {
        Edge.promise(28, "What a BAND PLAYS: the TUNE, or 6 for HUSH (2).");
        for (int no : Edge.NO_NUMBERS) {
            Edge.no("band", 2, x -> x.plays(no));
        }
        Edge.no("one behind the last", 2, x -> x.plays(3));
        Edge.asks("plays", x -> x.plays(0));
        BandPark x = Check.made(Edge.PARK);
        Check.told("a tune", x, x.plays(0), 0, 0);
        Check.told("the last tune", x, x.plays(1), 2, 0);
        Check.told("no programme", x, x.plays(2), 6, 0);
        x.hour(1);
        Check.told("its second", x, x.plays(0), 1, 0);
        Check.told("hush", x, x.plays(1), 6, 0);
        x.soothe(0, 0);
        Check.told("tired", x, x.plays(0), 6, 0);
        x = Check.made("park 1 by 1;tune a loud 1 toll 1;tune b loud 1 toll 1;tune c loud 1 toll 1;tune d loud 1 toll 1;tune e loud 1 toll 1;"
            + "tune f loud 1 toll 1;band z at 0 0 strength 1 lips 1 plays f;");
        Check.told("the sixth tune", x, x.plays(0), 5, 0);
    }

    private static void heardRefused() {
        Edge.promise(29, "with a TUNE (6: HUSH), LIPS not asked (2).");
        for (int no : Edge.NO_NUMBERS) {
            Edge.no("band", 2, x -> x.heard(no, 0, 0, 0));
            Edge.no("tune", 2, x -> x.heard(0, no, 0, 0));
            Edge.no("column", 2, x -> x.heard(0, 0, no, 0));
            Edge.no("row", 2, x -> x.heard(0, 0, 0, no));
        }
        Edge.no("one behind the last band", 2, x -> x.heard(3, 0, 0, 0));
        Edge.no("one behind the last tune", 2, x -> x.heard(0, 3, 0, 0));
        Edge.no("5, of three tunes", 2, x -> x.heard(0, 5, 0, 0));
        Edge.no("7", 2, x -> x.heard(0, 7, 0, 0));
        Edge.no("WIDE", 2, x -> x.heard(0, 0, 4, 0));
        Edge.no("DEEP", 2, x -> x.heard(0, 0, 0, 3));
        Edge.asks("heard", x -> x.heard(0, 0, 3, 2));
        Edge.asks("hush", x -> x.heard(2, 6, 3, 2));
    }

    /** A band in the middle of 5 by 5, of strength 20 and loud 20, that has no lips. */
    private static BandPark middle(int fade) {
        return Check.made("park 5 by 5;fade " + fade + ";tune a loud 20 toll 9;tune b loud 0 toll 0;band m at 2 2 strength 20 lips 0;");
    }

    private static void heardByFade() {
        Edge.promise(29, "by STRENGTH and LOUD, less FADE for each column and each row between");
        for (int fade = 0; fade <= 9; fade += 3) {
            BandPark x = middle(fade);
            for (int cell = 0; cell < 25; cell++) {
                int steps = Math.abs(cell % 5 - 2) + Math.abs(cell / 5 - 2);
                Check.told("calm", x, x.heard(0, 0, cell % 5, cell / 5), Math.max(0, 40 - fade * steps), 0);
                Check.told("calm, less loud", x, x.heard(0, 1, cell % 5, cell / 5), Math.max(0, 20 - fade * steps), 0);
            }
        }
        BandPark x = Check.made("park 6 by 5;fade 4;tune a loud 18 toll 0;band m at 0 0 strength 19 lips 0;");
        Check.told("1 is left", x, x.heard(0, 0, 5, 4), 1, 0);
        x.train(0, 18);
        Check.told("just 0", x, x.heard(0, 0, 5, 4), 0, 0);
        x.train(0, 0);
        Check.told("0 at least", x, x.heard(0, 0, 5, 4), 0, 0);
        Check.told("0 at least, far below", x, x.heard(0, 0, 5, 0), 0, 0);
        for (int i = 0; i < 5; i++) {
            x = Check.made("park 1 by 5;fade 3;tune a loud 9 toll 0;band m at 0 1 strength 1 lips 0 plays a;");
            Check.told("one column", x, x.heard(0, 0, 0, i), Math.max(0, 10 - 3 * Math.abs(i - 1)), 0);
            x.wind(1);
            Check.told("one column, with the wind", x, x.loudest(0, i), i == 0 ? 6 : 10 - 2 * (i - 1), 0);
            x = Check.made("park 6 by 1;fade 3;tune a loud 9 toll 0;band m at 1 0 strength 1 lips 0 plays a;");
            Check.told("one row", x, x.heard(0, 0, i, 0), Math.max(0, 10 - 3 * Math.abs(i - 1)), 0);
        }
        Edge.promise(29, "HUSH is HEARD by 0.");
        x = middle(0);
        Check.told("strength 20", x, x.heard(0, 6, 2, 2), 0, 0);
    }

    private static void heardByWind() {
        Edge.promise(29, "(one less than FADE, 0 at least, for each step that goes with the WIND; one more for each step against it)");
        for (int fade : new int[] {0, 1, 2, 9}) {
            int with = Math.max(0, fade - 1);
            BandPark x = middle(fade);
            int[][] ways = {{1, 0}, {0, 1}, {-1, 0}, {0, -1}};
            for (int wind = 0; wind < 4; wind++) {
                x.wind(wind);
                for (int way = 0; way < 4; way++) {
                    int each = way == wind ? with : way == (wind + 2) % 4 ? fade + 1 : fade;
                    for (int far = 1; far <= 2; far++) {
                        int got = x.heard(0, 0, 2 + far * ways[way][0], 2 + far * ways[way][1]);
                        Check.same("fade " + fade + " wind " + wind + " way " + way, got, Math.max(0, 40 - far * each));
                    }
                }
                Check.told("where it stands", x, x.heard(0, 0, 2, 2), 40, 0);
            }
        }
        BandPark x = middle(3);
        x.wind(0);
        Check.told("east and south", x, x.heard(0, 0, 4, 3), 40 - 2 * 2 - 3, 0);
        Check.told("west and north", x, x.heard(0, 0, 1, 0), 40 - 4 - 2 * 3, 0);
        x.wind(3);
        Check.told("north and west", x, x.heard(0, 0, 1, 0), 40 - 3 - 2 * 2, 0);
        Check.told("south and east", x, x.heard(0, 0, 3, 4), 40 - 3 - 2 * 4, 0);
        Edge.promise(29, "it blows east (to greater columns), south (to greater rows), west, north.");
        x = Check.made("park 3 by 3;fade 5;tune a loud 9 toll 0;band m at 1 1 strength 0 lips 0;");
        int[][] with = {{2, 1}, {1, 2}, {0, 1}, {1, 0}};
        for (int wind = 0; wind < 4; wind++) {
            x.wind(wind);
            Check.told("with the wind " + wind, x, x.heard(0, 0, with[wind][0], with[wind][1]), 5, 0);
        }
    }

    private static void heardByRain() {
        Edge.promise(29, "2 less while it rains; 0 at least.");
        BandPark x = Check.made("park 4 by 1;fade 1;tune a loud 3 toll 0;tune z loud 0 toll 0;band m at 0 0 strength 1 lips 0;");
        x.rain(true);
        int[] want = {2, 1, 0, 0};
        for (int column = 0; column < 4; column++) {
            Check.told("rain", x, x.heard(0, 0, column, 0), want[column], 0);
        }
        Check.told("1, less 2", x, x.heard(0, 1, 0, 0), 0, 0);
        Check.told("hush", x, x.heard(0, 6, 0, 0), 0, 0);
        x.rain(false);
        Check.told("dry again", x, x.heard(0, 0, 3, 0), 1, 0);
        x.rain(true);
        x.wind(0);
        Check.told("with the wind: fade 0", x, x.heard(0, 0, 3, 0), 2, 0);
    }

    private static void heardWhateverLips() {
        Edge.promise(29, "LIPS not asked (2).");
        BandPark x = middle(1);
        Check.told("no lips", x, x.heard(0, 0, 2, 2), 40, 0);
        Check.told("it plays hush", x, x.plays(0), 6, 0);
        Check.told("so it is not heard", x, x.loudest(2, 2), 0, 0);
    }

    private static void loudest() {
        Edge.promise(30, "By how much the BAND HEARD the most at a CELL is HEARD (2).");
        for (int no : Edge.NO_NUMBERS) {
            Edge.no("column", 2, x -> x.loudest(no, 0));
            Edge.no("row", 2, x -> x.loudest(0, no));
        }
        Edge.no("WIDE", 2, x -> x.loudest(4, 0));
        Edge.no("DEEP", 2, x -> x.loudest(0, 3));
        Edge.asks("loudest", x -> x.loudest(3, 2));
        BandPark x = Check.made("park 3 by 1;fade 2;tune a loud 4 toll 1;band l at 0 0 strength 2 lips 1 plays a;band r at 2 0 strength 3 lips 1 plays a;");
        // 6 4 2 and 3 5 7
        int[] want = {6, 5, 7};
        for (int column = 0; column < 3; column++) {
            Check.told("the most", x, x.loudest(column, 0), want[column], 0);
        }
        x.train(1, 2);
        Check.told("a blur", x, x.loudest(1, 0), 4, 0);
        x.soothe(0, 0);
        Check.told("who is tired is not heard", x, x.loudest(0, 0), 2, 0);
        x.soothe(1, 0);
        Check.told("silent", x, x.loudest(2, 0), 0, 0);
        x = Check.made("park 1 by 1;tune a loud 20 toll 0;band l at 0 0 strength 20 lips 0 plays a;");
        Check.told("the greatest", x, x.loudest(0, 0), 40, 0);
        x = Check.made("park 1 by 1;");
        Check.told("no bands", x, x.loudest(0, 0), 0, 0);
    }

    private static void holder() {
        Edge.promise(31, "Who HOLDS a CELL (2; 8: SILENT; 9: a BLUR).");
        for (int no : Edge.NO_NUMBERS) {
            Edge.no("column", 2, x -> x.holder(no, 0));
            Edge.no("row", 2, x -> x.holder(0, no));
        }
        Edge.no("WIDE", 2, x -> x.holder(4, 0));
        Edge.no("DEEP", 2, x -> x.holder(0, 3));
        Edge.asks("holder", x -> x.holder(0, 0));
        BandPark x = Check.made("park 3 by 1;fade 2;tune a loud 1 toll 0;band l at 0 0 strength 2 lips 0 plays a;band r at 2 0 strength 2 lips 0 plays a;");
        Check.told("0", x, x.holder(0, 0), 0, 0);
        Check.no("a blur", x, x.holder(1, 0), 9);
        Check.told("1", x, x.holder(2, 0), 1, 0);
        x.rain(true);
        Check.no("heard by 0 alike", x, x.holder(1, 0), 8);
        Check.told("heard by 1", x, x.holder(0, 0), 0, 0);
        x = Check.made("park 1 by 1;");
        Check.no("no bands", x, x.holder(0, 0), 8);
    }

    /** Four bands that are heard alike far, by so much each; the holder, or 8 or 9. */
    private static void heldBy(int a, int b, int c, int d, int want) {
        BandPark x = Check.made("park 4 by 1;fade 0;tune t loud 0 toll 0;band a at 0 0 strength " + a + " lips 0 plays t;band b at 1 0 strength "
            + b + " lips 0 plays t;band c at 2 0 strength " + c + " lips 0 plays t;band d at 3 0 strength " + d + " lips 0 plays t;");
        boolean is = want < 8;
        Check.told(a + " " + b + " " + c + " " + d, x, x.holder(3, 0), is ? want : -1, is ? 0 : want);
    }

    private static void held() {
        Edge.promise(31, "A CELL is HELD by the BAND that is HEARD there the most, by more than 0, if no other one is HEARD as much;");
        heldBy(1, 0, 0, 0, 0);
        heldBy(0, 0, 0, 1, 3);
        heldBy(2, 1, 1, 1, 0);
        heldBy(1, 1, 1, 2, 3);
        heldBy(2, 2, 3, 2, 2);
        heldBy(4, 3, 2, 1, 0);
        heldBy(1, 2, 3, 4, 3);
        Edge.promise(31, "it is a BLUR, if several are HEARD the most alike, above 0; SILENT, if none is HEARD.");
        heldBy(1, 1, 0, 0, 9);
        heldBy(2, 1, 1, 2, 9);
        heldBy(1, 2, 2, 1, 9);
        heldBy(1, 2, 1, 2, 9);
        heldBy(3, 3, 3, 3, 9);
        heldBy(2, 3, 3, 3, 9);
        heldBy(0, 0, 0, 0, 8);
    }

    private static void lawns() {
        Edge.promise(32, "How many CELLS a BAND HOLDS (2).");
        for (int no : Edge.NO_NUMBERS) {
            Edge.no("band", 2, x -> x.lawns(no));
        }
        Edge.no("one behind the last", 2, x -> x.lawns(3));
        Edge.asks("lawns", x -> x.lawns(2));
        BandPark x = Check.made("park 6 by 5;fade 0;tune a loud 1 toll 1;band l at 0 0 strength 1 lips 1 plays a;band r at 5 4 strength 1 lips 1;");
        Check.told("all", x, x.lawns(0), 30, 0);
        Check.told("none", x, x.lawns(1), 0, 0);
        x.set(1, 0, 0);
        Check.told("all are blurs", x, x.lawns(0), 0, 0);
        x.train(1, 2);
        Check.told("all are the other's", x, x.lawns(1), 30, 0);
        x.soothe(1, 0);
        Check.told("the other is tired", x, x.lawns(0), 30, 0);
        x.dig(0, 0, true);
        Check.told("a pond is one cell", x, x.lawns(0), 30, 0);
        x = Check.made("park 6 by 5;fade 0;tune a loud 1 toll 0;band ba at 0 0 strength 0 lips 0 plays a;band bb at 1 0 strength 0 lips 0 plays a;"
            + "band bc at 2 0 strength 0 lips 0 plays a;band bd at 3 0 strength 0 lips 0 plays a;band be at 4 0 strength 0 lips 0 plays a;"
            + "band bf at 5 0 strength 0 lips 0 plays a;");
        for (int b = 5; b >= 0; b--) {
            x.train(b, 6 - b);
            for (int other = 0; other < 6; other++) {
                Check.told("the strongest of six", x, x.lawns(other), other == b ? 30 : 0, 0);
            }
        }
    }

    private static void ponds() {
        Edge.promise(33, "The FRACTION is the part of all POND that a BAND HOLDS (2; 8: there is no POND).");
        for (int no : Edge.NO_NUMBERS) {
            Edge.not("band", 2, x -> x.ponds(no));
        }
        Edge.not("one behind the last", 2, x -> x.ponds(3));
        BandPark x = Check.made("park 4 by 1;fade 9;tune a loud 1 toll 0;band l at 0 0 strength 1 lips 0 plays a;band r at 3 0 strength 1 lips 0;");
        x.wet(1, 1);
        Check.flag("no pond", x, x.ponds(0), 8);
        Check.same("the fraction stays", x.top() * 10 + x.bottom(), 14);
        Check.flag("2 ahead of 8", x, x.ponds(2), 2);
        x.dig(0, 0, true);
        Check.flag("one, held", x, x.ponds(0), 0);
        Check.same("1 by 1", x.top() * 10 + x.bottom(), 11);
        Check.flag("by another one", x, x.ponds(1), 0);
        Check.same("0 by 1", x.top() * 10 + x.bottom(), 1);
        x.dig(1, 0, true);
        x.dig(2, 0, true);
        Check.flag("one of three", x, x.ponds(0), 0);
        Check.same("1 by 3", x.top() * 10 + x.bottom(), 13);
        x.rule(4, 1);
        x.train(0, 2);
        // 3 2 1 0: the third and all ponds are held, too
        Check.flag("three of three", x, x.ponds(0), 0);
        Check.same("1 by 1", x.top() * 10 + x.bottom(), 11);
        x.dig(3, 0, true);
        x.dig(0, 0, false);
        Check.flag("two of three, one is silent", x, x.ponds(0), 0);
        Check.same("2 by 3", x.top() * 10 + x.bottom(), 23);
        x = Check.made("park 6 by 5;fade 0;tune a loud 1 toll 0;band b at 5 4 strength 1 lips 0 plays a;");
        for (int i = 0; i < 30; i++) {
            x.dig(i % 6, i / 6, true);
            Check.flag("all that there are", x, x.ponds(0), 0);
            Check.same("1 by 1", x.top() * 10 + x.bottom(), 11);
        }
        x.rule(4, 9);
        Check.flag("its own of 30", x, x.ponds(0), 0);
        Check.same("1 by 30", x.top() * 100 + x.bottom(), 130);
    }

    private static void copies() {
        Edge.promise(34, "comes to a TRAY (-1: nobody): how many CELLS (1; 3; 4).");
        for (int no : Edge.NO_NUMBERS) {
            Edge.no("tray", 1, x -> x.copyHeld(no));
        }
        Edge.no("tray 4", 1, x -> x.copyHeld(4));
        Edge.no("missing", 3, x -> x.copyHeld(3));
        Edge.no("5 places for 12", 4, x -> x.copyHeld(0));
        BandPark x = Check.made("park 3 by 2;fade 2;tune a loud 1 toll 0;band l at 0 0 strength 2 lips 0 plays a;band r at 2 0 strength 2 lips 0 plays a;");
        // 3 1 0 / 1 0 0 and 0 1 3 / 0 0 1
        x.tray(0, 3, 5);
        Check.no("one too few", x, x.copyHeld(0), 4);
        Check.told("nothing came", x, x.read(0, 0), 0, 0);
        x.tray(0, 3, 6);
        Check.told("just as many", x, x.copyHeld(0), 6, 0);
        int[] want = {0, -1, 1, 0, -1, 1};
        for (int i = 0; i < 6; i++) {
            Check.told("row by row: a blur and silence are nobody", x, x.read(0, i), want[i], 0);
        }
        x.tray(0, 0, 60);
        x.write(0, 6, 99);
        Check.told("more places", x, x.copyHeld(0), 6, 0);
        Check.told("those behind stay", x, x.read(0, 6), 99, 0);
        Check.told("those behind stay", x, x.read(0, 59), 0, 0);
        x = new BandPark();
        x.tray(0, 0, 0);
        Check.told("no cells", x, x.copyHeld(0), 0, 0);
    }

    private static void copiesCut() {
        Edge.promise(34, "Who HOLDS each CELL, row by row");
        for (int sort = 0; sort < 4; sort++) {
            BandPark x = Check.made("park 6 by 5;fade 9;tune a loud 1 toll 0;band z at 0 0 strength 0 lips 0;band l at 1 0 strength 1 lips 0 plays a;"
                + "band r at 5 4 strength 1 lips 0 plays a;");
            x.tray(sort, sort, 30);
            Check.told("30", x, x.copyHeld(sort), 30, 0);
            for (int i = 0; i < 30; i++) {
                Check.told("of sort " + sort, x, x.read(sort, i), i == 1 ? 1 : i == 29 ? 2 : -1, 0);
            }
        }
    }
}
