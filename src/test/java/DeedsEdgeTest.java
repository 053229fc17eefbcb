/** Edges of promises 18 to 27: hours, wind, rain, programmes, bands, rules, ponds. */
public final class DeedsEdgeTest {
    /** Heard by 6 4 2 and 2 4 6: the pond in the middle is a blur. */
    private static final String LINE = "park 3 by 1;fade 2;rest 2;pond 1 0;tune a loud 4 toll 3;tune z loud 0 toll 0;"
        + "band l at 0 0 strength 2 lips 7 plays a;band r at 2 0 strength 2 lips 9 plays a;";

    /** Six bands in the first row, each heard where it stands alone; the last one has the most lips. */
    private static final String SIX = "park 6 by 5;fade 9;rest 1;tune a loud 1 toll 2;band ba at 0 0 strength 0 lips 4 plays a;"
        + "band bb at 1 0 strength 0 lips 5 plays a;band bc at 2 0 strength 0 lips 6 plays a;band bd at 3 0 strength 0 lips 7 plays a;"
        + "band be at 4 0 strength 0 lips 8 plays a;band bf at 5 0 strength 0 lips 9 plays a;";

    public static void main(String[] args) throws Exception {
        Edge.begin(args);
        hoursRefused();
        hoursToTheLast();
        pointsOfAnHour();
        lipsOfAnHour();
        hoursOfSix();
        wantsAndPlays();
        winds();
        rains();
        sets();
        drops();
        moves();
        trains();
        soothes();
        rules();
        digs();
        Edge.end(18, 27);
    }

    // ---- hour

    private static void hoursRefused() {
        Edge.promise(18, "So many HOURS (1 to 99)");
        for (int no : Edge.NO_NUMBERS) {
            Edge.no("so many", 5, x -> x.hour(no));
        }
        Edge.no("0", 5, x -> x.hour(0));
        Edge.no("100", 5, x -> x.hour(100));
        BandPark x = Check.made(LINE);
        Check.told("1", x, x.hour(1), 2, 0);
        Check.told("hour 1", x, x.many(7), 1, 0);
        x.hour(99);
        Check.told("hour 100", x, x.many(7), 100, 0);
    }

    private static BandPark late(int hour) {
        BandPark x = Check.made(LINE);
        for (int i = 0; i < 100; i++) {
            x.hour(99);
        }
        x.hour(hour - 9900);
        return x;
    }

    private static void hoursToTheLast() {
        Edge.promise(18, "(5; 7: above 9,999).");
        BandPark x = late(9990);
        int lips = x.band(0, 3);
        int points = x.band(0, 5);
        Check.no("10 more", x, x.hour(10), 7);
        Check.no("99 more", x, x.hour(99), 7);
        Check.no("5 ahead of 7", x, x.hour(100), 5);
        Check.told("as a whole: the hour stays", x, x.many(7), 9990, 0);
        Check.told("as a whole: lips stay", x, x.band(0, 3), lips, 0);
        Check.told("as a whole: points stay", x, x.band(0, 5), points, 0);
        Edge.promise(18, "An HOUR goes by (to 9,999)");
        x.hour(9);
        Check.told("9,999 can be", x, x.status(), 0, 0);
        Check.told("9,999", x, x.many(7), 9999, 0);
        Check.no("one more", x, x.hour(1), 7);
        Check.told("9,999 still", x, x.many(7), 9999, 0);
        x = late(9998);
        x.hour(1);
        Check.told("9,999 by one", x, x.many(7), 9999, 0);
    }

    private static void pointsOfAnHour() {
        Edge.promise(18, "each CELL gives who HOLDS it a POINT, a POND 3.");
        BandPark x = Check.made(LINE);
        Check.told("the blurred pond gives none", x, x.hour(1), 2, 0);
        Check.same("one each", x.band(0, 5) * 10 + x.band(1, 5), 11);
        x = Check.made(LINE);
        x.train(0, 3);
        Check.told("the pond gives 3", x, x.hour(1), 5, 0);
        Check.same("4 and 1", x.band(0, 5) * 10 + x.band(1, 5), 41);
        x.drop(0);
        x.drop(1);
        Check.told("silence gives none", x, x.hour(1), 0, 0);
        Check.same("they stay", x.band(0, 5) * 10 + x.band(1, 5), 41);
        Edge.promise(18, "POINTS that all BANDS got in them");
        x = Check.made(LINE);
        // lips of l: 7 4 1 3 0, of r: 9 6 3 0 2, so that l is tired in hour 2, r in hour 3
        Check.told("four", x, x.hour(4), 2 + 2 + 5 + 5, 0);
        Check.told("both are tired", x, x.hour(1), 0, 0);
        Check.told("those got before are not told again", x, x.hour(1), 5, 0);
        Check.same("all", x.band(0, 5) + x.band(1, 5), 19);
        x = Check.made("park 6 by 5;fade 0;tune a loud 20 toll 0;band b at 0 0 strength 20 lips 0 plays a;");
        for (int i = 0; i < 30; i++) {
            x.dig(i % 6, i / 6, true);
        }
        Check.told("all of it, 99 hours", x, x.hour(99), 99 * 90, 0);
        x = new BandPark();
        Check.told("no cells", x, x.hour(99), 0, 0);
    }

    private static void lipsOfAnHour() {
        Edge.promise(18, "each BAND that PLAYS a TUNE has LIPS less by its TOLL; each other one has REST more, as many as were told at most.");
        BandPark x = Check.made(LINE);
        x.hour(1);
        Check.same("less by the toll", x.band(0, 3) * 10 + x.band(1, 3), 46);
        x.hour(1);
        Check.same("less by the toll", x.band(0, 3) * 10 + x.band(1, 3), 13);
        x.hour(1);
        Check.same("the tired one rests; the other has none left", x.band(0, 3) * 10 + x.band(1, 3), 30);
        x.set(0, 0, 6);
        x.soothe(0, 6);
        x.hour(1);
        Check.told("hush: as many as were told, not 8", x, x.band(0, 3), 7, 0);
        x.hour(1);
        Check.told("no more than that", x, x.band(0, 3), 7, 0);
        x.soothe(0, 5);
        x.hour(1);
        Check.told("just as many", x, x.band(0, 3), 7, 0);
        x.drop(0);
        x.soothe(0, 0);
        x.hour(1);
        Check.told("no programme: it rests", x, x.band(0, 3), 2, 0);
        x.set(0, 0, 1);
        x.hour(9);
        Check.told("toll 0 takes none, and is no rest", x, x.band(0, 3), 2, 0);
        x.rule(5, 0);
        x.drop(0);
        x.hour(9);
        Check.told("rest 0", x, x.band(0, 3), 2, 0);
        x.rule(5, 9);
        x.hour(1);
        Check.told("rest 9", x, x.band(0, 3), 7, 0);
    }

    private static void hoursOfSix() {
        Edge.promise(18, "each CELL gives who HOLDS it a POINT, a POND 3.");
        BandPark x = Check.made(SIX);
        Check.told("one each", x, x.hour(1), 6, 0);
        x.dig(5, 0, true);
        Check.told("the pond is the last one's", x, x.hour(1), 8, 0);
        // lips: 0 1 2 3 4 5, so that two are tired in the third hour
        Check.told("two are tired", x, x.hour(1), 6, 0);
        for (int b = 0; b < 6; b++) {
            Check.told("points", x, x.band(b, 5), b < 2 ? 2 : b < 5 ? 3 : 7, 0);
            Check.told("lips", x, x.band(b, 3), b < 2 ? b + 1 : b - 2, 0);
        }
        for (int b = 0; b < 6; b++) {
            x.drop(b);
        }
        x.hour(99);
        for (int b = 0; b < 6; b++) {
            Check.told("rest", x, x.band(b, 3), b + 4, 0);
        }
    }

    private static void wantsAndPlays() {
        Edge.promise(18, "the ENTRY of its PROGRAMME in place h, round and round (HUSH, if it has none)");
        BandPark x = Check.made("park 1 by 1;tune a loud 1 toll 0;tune b loud 1 toll 0;band c at 0 0 strength 1 lips 0 plays a b hush;");
        int[] want = {0, 1, 6, 0, 1, 6, 0};
        for (int h = 0; h < want.length; h++) {
            Check.told("hour " + h, x, x.plays(0), want[h], 0);
            x.hour(1);
        }
        x.drop(0);
        Check.told("hour 7 of two", x, x.plays(0), 1, 0);
        x.drop(0);
        Check.told("of one", x, x.plays(0), 0, 0);
        x.drop(0);
        Check.told("of none", x, x.plays(0), 6, 0);
        Edge.promise(18, "it PLAYS that TUNE, if it has as many LIPS as the TOLL or more; else it is TIRED, and plays HUSH.");
        x = Check.made(LINE);
        x.soothe(0, 3);
        Check.told("as many", x, x.plays(0), 0, 0);
        x.soothe(0, 2);
        Check.told("one less", x, x.plays(0), 6, 0);
        Check.told("tired", x, x.many(14), 1, 0);
        x.set(0, 0, 1);
        x.soothe(0, 0);
        Check.told("toll 0, no lips", x, x.plays(0), 1, 0);
        Check.told("not tired", x, x.many(14), 0, 0);
    }

    // ---- wind, rain

    private static void winds() {
        Edge.promise(19, "The WIND blows so (0 to 3; 4: CALM) (5; 9: it is so).");
        for (int no : Edge.NO_NUMBERS) {
            Edge.not("to", 5, x -> x.wind(no));
        }
        Edge.not("5", 5, x -> x.wind(5));
        Edge.not("it is so", 9, x -> x.wind(x.many(8)));
        for (int from = 0; from < 5; from++) {
            for (int to = 0; to < 5; to++) {
                BandPark x = Check.made(LINE);
                if (from != 4) {
                    x.wind(from);
                }
                Check.flag("from " + from + " to " + to, x, x.wind(to), from == to ? 9 : 0);
                Check.told("wind", x, x.many(8), to, 0);
            }
        }
        BandPark x = new BandPark();
        Check.flag("without a park it is calm", x, x.wind(4), 9);
        Check.flag("east", x, x.wind(0), 0);
    }

    private static void rains() {
        Edge.promise(20, "It rains, or is dry (9: it is so).");
        Edge.not("it is so", 9, x -> x.rain(x.many(9) == 1));
        BandPark x = Check.made(LINE);
        Check.flag("dry at first", x, x.rain(false), 9);
        Check.flag("rain", x, x.rain(true), 0);
        Check.told("rain", x, x.many(9), 1, 0);
        Check.flag("rain again", x, x.rain(true), 9);
        Check.flag("dry", x, x.rain(false), 0);
        Check.told("dry", x, x.many(9), 0, 0);
        x = new BandPark();
        Check.flag("without a park it is dry", x, x.rain(false), 9);
        Check.flag("rain", x, x.rain(true), 0);
    }

    // ---- programmes

    private static void sets() {
        Edge.promise(21, "(2: BAND, TUNE; 5: k beyond that).");
        for (int no : Edge.NO_NUMBERS) {
            Edge.no("band", 2, x -> x.set(no, 0, 0));
            Edge.no("tune", 2, x -> x.set(0, 0, no));
            Edge.no("k", 5, x -> x.set(0, no, 0));
            Edge.no("2 ahead of 5", 2, x -> x.set(0, no, no));
            Edge.no("2 ahead of 5", 2, x -> x.set(no, no, 0));
        }
        Edge.no("one behind the last band", 2, x -> x.set(3, 0, 0));
        Edge.no("one behind the last tune", 2, x -> x.set(0, 0, 3));
        Edge.no("5, of three tunes", 2, x -> x.set(0, 0, 5));
        Edge.no("7", 2, x -> x.set(0, 0, 7));
        Edge.no("two behind the last entry", 5, x -> x.set(0, 3, 0));
        Edge.no("one behind none", 5, x -> x.set(2, 1, 0));
        Edge.no("6", 5, x -> x.set(0, 6, 0));
        Edge.promise(21, "one more, if k is just behind its last one: how many it has");
        BandPark x = Check.made(Edge.PARK);
        Check.told("in its place: no more", x, x.set(0, 1, 2), 2, 0);
        Check.told("in its place", x, x.entry(0, 1), 2, 0);
        Check.told("the other stays", x, x.entry(0, 0), 0, 0);
        for (int k = 2; k < 6; k++) {
            Check.told("just behind", x, x.set(0, k, k == 4 ? 6 : 1), k + 1, 0);
            Check.told("just behind", x, x.entry(0, k), k == 4 ? 6 : 1, 0);
        }
        Check.no("a seventh", x, x.set(0, 6, 1), 5);
        Check.told("the sixth in its place", x, x.set(0, 5, 0), 6, 0);
        Check.told("the first of none", x, x.set(2, 0, 6), 1, 0);
        Check.told("the same again", x, x.set(2, 0, 6), 1, 0);
        Edge.promise(21, "is a TUNE from now on, or HUSH (6)");
        x = Check.made("park 1 by 1;tune a loud 1 toll 0;band c at 0 0 strength 1 lips 0 plays hush;");
        Check.told("a tune", x, x.set(0, 0, 0), 1, 0);
        Check.told("at once", x, x.plays(0), 0, 0);
        Check.told("at once", x, x.lawns(0), 1, 0);
        x.set(0, 0, 6);
        Check.told("hush", x, x.lawns(0), 0, 0);
        x = Check.made("park 1 by 1;band c at 0 0 strength 1 lips 0;");
        Check.told("hush, though there are no tunes", x, x.set(0, 0, 6), 1, 0);
        Check.no("a tune, though there are none", x, x.set(0, 0, 0), 2);
    }

    private static void drops() {
        Edge.promise(22, "The last ENTRY of a PROGRAMME is gone: how many it has (2; 8: it has none).");
        for (int no : Edge.NO_NUMBERS) {
            Edge.no("band", 2, x -> x.drop(no));
        }
        Edge.no("one behind the last", 2, x -> x.drop(3));
        Edge.no("none", 8, x -> x.drop(2));
        BandPark x = Check.made(Edge.PARK);
        Check.told("one left", x, x.drop(0), 1, 0);
        Check.told("the first is left", x, x.entry(0, 0), 0, 0);
        Check.no("the last is gone", x, x.entry(0, 1), 8);
        Check.told("none left", x, x.drop(0), 0, 0);
        Check.no("no more", x, x.drop(0), 8);
        Check.told("hush", x, x.plays(0), 6, 0);
        Check.told("it can be told again", x, x.set(0, 0, 1), 1, 0);
        Check.told("others stay", x, x.band(1, 6), 2, 0);
    }

    // ---- bands

    private static void moves() {
        Edge.promise(23, "A BAND goes to a CELL (2; 9: one is there, itself, too).");
        for (int no : Edge.NO_NUMBERS) {
            Edge.not("band", 2, x -> x.move(no, 1, 1));
            Edge.not("column", 2, x -> x.move(0, no, 1));
            Edge.not("row", 2, x -> x.move(0, 1, no));
        }
        Edge.not("one behind the last band", 2, x -> x.move(3, 1, 1));
        Edge.not("2 ahead of 9", 2, x -> x.move(3, 0, 0));
        Edge.not("WIDE", 2, x -> x.move(0, 4, 0));
        Edge.not("DEEP", 2, x -> x.move(0, 0, 3));
        Edge.not("another one is there", 9, x -> x.move(0, 3, 2));
        Edge.not("the last one is there", 9, x -> x.move(0, 3, 0));
        Edge.not("itself", 9, x -> x.move(0, 0, 0));
        BandPark x = Check.made(Edge.PARK);
        Check.flag("the last column", x, x.move(0, 3, 1), 0);
        Check.flag("the last row, on", x, x.move(0, 2, 2), 0);
        Check.same("there", x.band(0, 0) * 10 + x.band(0, 1), 22);
        Check.flag("where it was", x, x.move(2, 0, 0), 0);
        Check.flag("a pond", x, x.move(0, 1, 1), 0);
        Check.told("its own cell is the loudest", x, x.heard(0, 0, 1, 1), 12, 0);
        x = Check.made(SIX);
        for (int b = 0; b < 6; b++) {
            for (int other = 0; other < 6; other++) {
                Check.flag("each of six is there", x, x.move(b, other, 0), 9);
            }
        }
        Check.flag("the last of six goes", x, x.move(5, 5, 4), 0);
        Check.flag("its cell is free then", x, x.move(0, 5, 0), 0);
        Check.flag("where it is now is not", x, x.move(0, 5, 4), 9);
    }

    private static void trains() {
        Edge.promise(24, "STRENGTH of a BAND from now on (0 to 20) (2; 5).");
        for (int no : Edge.NO_NUMBERS) {
            Edge.not("band", 2, x -> x.train(no, 1));
            Edge.not("strength", 5, x -> x.train(0, no));
            Edge.not("2 ahead of 5", 2, x -> x.train(no, no));
        }
        Edge.not("one behind the last", 2, x -> x.train(3, 1));
        Edge.not("21", 5, x -> x.train(0, 21));
        BandPark x = Check.made(Edge.PARK);
        Check.flag("0", x, x.train(0, 0), 0);
        Check.told("0", x, x.band(0, 2), 0, 0);
        Check.told("heard so", x, x.heard(0, 0, 0, 0), 4, 0);
        Check.flag("20", x, x.train(0, 20), 0);
        Check.told("20", x, x.band(0, 2), 20, 0);
        Check.told("heard so", x, x.heard(0, 0, 0, 0), 24, 0);
        Check.flag("the same again", x, x.train(0, 20), 0);
        Check.told("lips stay", x, x.band(0, 3), 10, 0);
    }

    private static void soothes() {
        Edge.promise(25, "LIPS of a BAND are so many (0 to the most that it ever has) (2; 5).");
        for (int no : Edge.NO_NUMBERS) {
            Edge.not("band", 2, x -> x.soothe(no, 1));
            Edge.not("lips", 5, x -> x.soothe(0, no));
            Edge.not("2 ahead of 5", 2, x -> x.soothe(no, no));
        }
        Edge.not("one behind the last", 2, x -> x.soothe(3, 1));
        Edge.not("one more than the most", 5, x -> x.soothe(0, 11));
        Edge.not("one more than the most of another one", 5, x -> x.soothe(2, 5));
        BandPark x = Check.made(Edge.PARK);
        Check.flag("0", x, x.soothe(0, 0), 0);
        Check.told("0", x, x.band(0, 3), 0, 0);
        Check.told("tired at once", x, x.plays(0), 6, 0);
        Check.flag("the most", x, x.soothe(0, 10), 0);
        Check.told("the most", x, x.band(0, 3), 10, 0);
        Check.flag("the same again", x, x.soothe(0, 10), 0);
        Check.flag("less", x, x.soothe(0, 4), 0);
        Check.told("the most stays", x, x.band(0, 4), 10, 0);
        x = Check.made("park 2 by 1;band a at 0 0 strength 1 lips 0;band b at 1 0 strength 1 lips 99;");
        Check.flag("0 of 0", x, x.soothe(0, 0), 0);
        Check.flag("1 of 0", x, x.soothe(0, 1), 5);
        Check.flag("99 of 99", x, x.soothe(1, 99), 0);
        Check.flag("100 of 99", x, x.soothe(1, 100), 5);
    }

    // ---- rules, ponds

    private static void rules() {
        Edge.promise(26, "FADE (what 4: 0 to 9), REST (5: 0 to 9), ODDS (6: 0 to 16) from now on (5).");
        int[] most = {9, 9, 16};
        for (int no : Edge.NO_NUMBERS) {
            Edge.not("what", 5, x -> x.rule(no, 1));
            for (int what = 4; what < 7; what++) {
                int asked = what;
                Edge.not("much", 5, x -> x.rule(asked, no));
            }
        }
        for (int what : new int[] {0, 1, 2, 3, 7, 8}) {
            Edge.not("what " + what, 5, x -> x.rule(what, 1));
        }
        for (int i = 0; i < 3; i++) {
            int what = 4 + i;
            int much = most[i];
            Edge.not("one more than the most", 5, x -> x.rule(what, much + 1));
            BandPark x = Check.made(Edge.PARK);
            int others = x.many(4) + x.many(5) + x.many(6) - x.many(what);
            Check.flag("0", x, x.rule(what, 0), 0);
            Check.told("0", x, x.many(what), 0, 0);
            Check.flag("the most", x, x.rule(what, much), 0);
            Check.told("the most", x, x.many(what), much, 0);
            Check.flag("the same again", x, x.rule(what, much), 0);
            Check.same("the others stay", x.many(4) + x.many(5) + x.many(6) - much, others);
        }
        BandPark x = new BandPark();
        Check.flag("without a park", x, x.rule(6, 16), 0);
        x.wet(1, 1);
        Check.same("16 of 16", x.top() * 10 + x.bottom(), 11);
        x = Check.made(LINE);
        x.rule(4, 0);
        Check.told("heard so from now on", x, x.heard(0, 0, 2, 0), 6, 0);
    }

    private static void digs() {
        Edge.promise(27, "A CELL is POND, or not (2; 9: it is so).");
        for (int no : Edge.NO_NUMBERS) {
            Edge.not("column", 2, x -> x.dig(no, 0, true));
            Edge.not("row", 2, x -> x.dig(0, no, true));
        }
        Edge.not("WIDE", 2, x -> x.dig(4, 0, true));
        Edge.not("DEEP", 2, x -> x.dig(0, 3, false));
        Edge.not("pond already", 9, x -> x.dig(1, 1, true));
        Edge.not("none already", 9, x -> x.dig(0, 1, false));
        BandPark x = Check.made(Edge.PARK);
        Check.flag("the last cell", x, x.dig(3, 2, true), 0);
        Check.told("the last cell", x, x.pond(3, 2), 1, 0);
        Check.flag("where a band is", x, x.dig(0, 0, true), 0);
        Check.told("four", x, x.many(10), 4, 0);
        Check.flag("not", x, x.dig(1, 1, false), 0);
        Check.told("not", x, x.pond(1, 1), 0, 0);
        Check.told("three", x, x.many(10), 3, 0);
        x = Check.made(LINE);
        x.train(0, 3);
        Check.told("3 for the pond", x, x.hour(1), 5, 0);
        x.dig(1, 0, false);
        Check.told("1 from now on", x, x.hour(1), 3, 0);
        x.dig(0, 0, true);
        x.soothe(0, 3);
        Check.told("3 from now on", x, x.hour(1), 5, 0);
    }
}
