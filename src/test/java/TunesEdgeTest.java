/** Edges of promises 40 to 44: HOLDING, BEST, LOW. */
public final class TunesEdgeTest {
    public static void main(String[] args) throws Exception {
        Edge.begin(args);
        holdingRefused();
        holdingAlone();
        holdingAtAlone();
        holdingWithAllLips();
        holdingFirst();
        holdingAgainst();
        holdingWithHush();
        holdingLate();
        best();
        bestOfSeveral();
        low();
        Edge.end(40, 44);
    }

    private static void holdingRefused() {
        Edge.promise(40, "HOLDING: in how many HOURS (2; 5).");
        for (int no : Edge.NO_NUMBERS) {
            Edge.no("band", 2, x -> x.holding(no, 0, 0, 1));
            Edge.no("column", 2, x -> x.holding(0, no, 0, 1));
            Edge.no("row", 2, x -> x.holding(0, 0, no, 1));
            Edge.no("n", 5, x -> x.holding(0, 0, 0, no));
            Edge.no("2 ahead of 5", 2, x -> x.holding(no, 0, 0, no));
        }
        Edge.no("one behind the last", 2, x -> x.holding(3, 0, 0, 1));
        Edge.no("WIDE", 2, x -> x.holding(0, 4, 0, 1));
        Edge.no("DEEP", 2, x -> x.holding(0, 0, 3, 1));
        Edge.no("0", 5, x -> x.holding(0, 0, 0, 0));
        Edge.no("5", 5, x -> x.holding(0, 0, 0, 5));
        Edge.asks("1", x -> x.holding(0, 0, 0, 1));
        Edge.asks("4", x -> x.holding(2, 3, 2, 4));
        Edge.promise(41, "The k-th ENTRY of HOLDING, from 0 on (6: HUSH) (2; 5; 8: no such).");
        for (int no : Edge.NO_NUMBERS) {
            Edge.no("band", 2, x -> x.holdingAt(no, 0, 0, 1, 0));
            Edge.no("column", 2, x -> x.holdingAt(0, no, 0, 1, 0));
            Edge.no("row", 2, x -> x.holdingAt(0, 0, no, 1, 0));
            Edge.no("n", 5, x -> x.holdingAt(0, 0, 0, no, 0));
            Edge.no("k", 8, x -> x.holdingAt(0, 0, 0, 4, no));
            Edge.no("2 ahead of 5, 8", 2, x -> x.holdingAt(no, 0, 0, no, no));
            Edge.no("5 ahead of 8", 5, x -> x.holdingAt(0, 0, 0, no, no));
        }
        Edge.no("one behind the last", 2, x -> x.holdingAt(3, 0, 0, 1, 0));
        Edge.no("0", 5, x -> x.holdingAt(0, 0, 0, 0, 0));
        Edge.no("5", 5, x -> x.holdingAt(0, 0, 0, 5, 0));
        for (int n = 1; n <= 4; n++) {
            int many = n;
            Edge.no("k is n", 8, x -> x.holdingAt(0, 0, 0, many, many));
            Edge.asks("the last", x -> x.holdingAt(0, 0, 0, many, many - 1));
        }
    }

    /** In how many hours, and the entries behind it, each a digit. */
    private static void holds(String what, BandPark x, int band, int column, int n, int hours, int entries) {
        Edge.promise(40, "so that it HOLDS that CELL in the most HOURS");
        Check.told(what, x, x.holding(band, column, 0, n), hours, 0);
        Edge.promise(41, "of several the first by TUNES (HUSH comes last).");
        int got = 0;
        for (int k = 0; k < n; k++) {
            got = got * 10 + x.holdingAt(band, column, 0, n, k);
            Check.same(what + ": status", x.status(), 0);
        }
        Check.same(what + ": entries", got, entries);
    }

    private static void holdingAlone() {
        BandPark x = Check.made("park 1 by 1;rest 1;tune a loud 5 toll 3;tune b loud 5 toll 1;band c at 0 0 strength 0 lips 3;");
        holds("one hour: the first", x, 0, 0, 1, 1, 0);
        // b leaves 2, with which a can't be played, and rests; or b once more
        holds("two", x, 0, 0, 2, 2, 11);
        holds("three", x, 0, 0, 3, 3, 111);
        holds("four: a rest that is told as a, who is tired", x, 0, 0, 4, 3, 1011);
        x = Check.made("park 1 by 1;band c at 0 0 strength 20 lips 9;");
        holds("no tunes", x, 0, 0, 4, 0, 6666);
        x = Check.made("park 1 by 1;tune a loud 0 toll 0;tune b loud 1 toll 9;tune c loud 1 toll 1;band d at 0 0 strength 0 lips 8 plays hush;");
        holds("its programme is not asked", x, 0, 0, 4, 4, 2222);
        x.soothe(0, 0);
        holds("no lips: a rests it not, b does", x, 0, 0, 1, 0, 0);
        // rest 2 behind b, who is tired: c is played twice then
        holds("rest first", x, 0, 0, 3, 2, 122);
    }

    private static void holdingAtAlone() {
        Edge.promise(41, "The k-th ENTRY of HOLDING, from 0 on (6: HUSH)");
        String park = "park 1 by 1;tune a loud 0 toll 0;tune b loud 1 toll 0;tune c loud 2 toll 9;band d at 0 0 strength 0 lips 0;";
        for (int k = 0; k < 4; k++) {
            BandPark x = Check.made(park);
            Check.told("asked alone", x, x.holdingAt(0, 0, 0, 4, k), 1, 0);
        }
        BandPark x = Check.made("park 2 by 1;fade 9;tune a loud 0 toll 0;tune b loud 1 toll 0;band d at 0 0 strength 0 lips 0;band e at 1 0 strength 0 lips 0;");
        Check.told("one cell is its own", x, x.holding(0, 0, 0, 2), 2, 0);
        Check.told("another cell", x, x.holdingAt(0, 1, 0, 2, 0), 0, 0);
        Check.told("its own again", x, x.holdingAt(0, 0, 0, 1, 0), 1, 0);
        Check.told("the other's own", x, x.holdingAt(1, 1, 0, 3, 2), 1, 0);
    }

    private static void holdingWithAllLips() {
        BandPark x = Check.made("park 1 by 1;rest 9;tune a loud 1 toll 9;tune b loud 1 toll 0;band c at 0 0 strength 0 lips 99;");
        holds("99 lips: four hours", x, 0, 0, 4, 4, 0);
        holds("then one", x, 0, 0, 1, 1, 0);
        holds("then three", x, 0, 0, 3, 3, 0);
        holds("then two", x, 0, 0, 2, 2, 0);
        x.train(0, 0);
        x.rain(true);
        holds("none is held with 99 lips", x, 0, 0, 2, 0, 0);
    }

    private static void holdingFirst() {
        BandPark x = Check.made("park 1 by 1;tune a loud 0 toll 0;tune b loud 1 toll 0;tune c loud 1 toll 0;band d at 0 0 strength 0 lips 0;");
        holds("of several the first", x, 0, 0, 4, 4, 1111);
        x = Check.made("park 2 by 1;fade 9;tune a loud 1 toll 9;band d at 0 0 strength 0 lips 0;band e at 1 0 strength 0 lips 0;");
        holds("none is held: the first, though it is tired", x, 0, 0, 4, 0, 0);
        holds("out of reach", x, 0, 1, 2, 0, 0);
        x = Check.made("park 1 by 1;tune a loud 0 toll 0;tune b loud 0 toll 0;tune c loud 0 toll 0;tune d loud 0 toll 0;tune e loud 0 toll 0;"
            + "tune f loud 1 toll 0;band z at 0 0 strength 0 lips 0;");
        holds("the last tune", x, 0, 0, 4, 4, 5555);
        x = Check.made("park 1 by 1;rest 1;tune a loud 0 toll 0;tune b loud 0 toll 0;tune c loud 0 toll 0;tune d loud 0 toll 0;tune e loud 0 toll 0;"
            + "tune f loud 1 toll 2;band z at 0 0 strength 0 lips 3;");
        holds("the last tune takes lips, too", x, 0, 0, 2, 1, 5);
        holds("and its band tires", x, 0, 0, 3, 2, 555);
    }

    private static void holdingAgainst() {
        BandPark x = Check.made("park 2 by 1;fade 0;rest 0;tune a loud 3 toll 1;tune b loud 5 toll 2;"
            + "band l at 0 0 strength 0 lips 9;band r at 1 0 strength 0 lips 1 plays a;");
        // r plays a in the first hour, and is tired from the second on
        holds("as much is not more", x, 0, 0, 1, 1, 1);
        holds("others tire as well", x, 0, 1, 4, 4, 1000);
        x.soothe(0, 3);
        // b first leaves one lip, for two hours in all; hush first leaves three
        holds("three of four", x, 0, 0, 4, 3, 6000);
        x.train(1, 2);
        holds("a blur is not held", x, 0, 0, 1, 0, 0);
        holds("nor can it be: a costs one lip that is not needed", x, 0, 0, 3, 2, 0);
        holds("but here it is", x, 0, 0, 4, 3, 6000);
    }

    private static void holdingWithHush() {
        BandPark x = Check.made("park 2 by 1;fade 0;rest 1;tune a loud 1 toll 2;band l at 0 0 strength 0 lips 2;"
            + "band r at 1 0 strength 20 lips 9 plays a hush;");
        holds("lips are kept for the second hour", x, 0, 0, 2, 1, 60);
        x.soothe(0, 1);
        holds("a is tired, and rests as well", x, 0, 0, 2, 1, 0);
        x.soothe(0, 2);
        holds("the last may be what it is", x, 0, 0, 3, 1, 600);
        holds("one hour: in none", x, 0, 0, 1, 0, 0);
        // it can hold in the second hour or in the fourth; a first, then a tired twice, comes first
        holds("four", x, 0, 0, 4, 1, 0);
        x.rule(5, 2);
        holds("four, with rest 2", x, 0, 0, 4, 2, 6000);
        x = Check.made("park 2 by 1;fade 0;rest 1;tune a loud 1 toll 2;band l at 0 0 strength 0 lips 4;"
            + "band r at 1 0 strength 20 lips 9 plays a hush hush;");
        x.soothe(0, 3);
        // hush makes it 4, enough for two hours; a would be played, and leave 1
        holds("hush is a rest", x, 0, 0, 3, 2, 600);
        x.soothe(0, 4);
        holds("no more than the most: hush keeps 4", x, 0, 0, 3, 2, 600);
        x = Check.made("park 2 by 1;fade 0;rest 1;tune a loud 1 toll 2;band l at 0 0 strength 0 lips 4 plays a;"
            + "band r at 1 0 strength 20 lips 9 plays a hush hush;");
        x.soothe(0, 3);
        holds("whatever its programme would leave", x, 0, 0, 3, 2, 600);
    }

    private static void holdingLate() {
        Edge.promise(40, "(HOUR 9,999 does not matter)");
        BandPark x = Check.made("park 2 by 1;fade 0;rest 0;tune a loud 1 toll 0;band l at 0 0 strength 0 lips 0 plays hush;"
            + "band r at 1 0 strength 9 lips 0 plays a a hush hush;");
        for (int i = 0; i < 101; i++) {
            x.hour(99);
        }
        // hour 9,999 is place 3
        holds("hours beyond", x, 0, 0, 4, 2, 0);
        holds("hours beyond", x, 1, 0, 4, 4, 0);
        Check.told("the hour stays", x, x.many(7), 9999, 0);
        x.wind(2);
        Check.told("by the same wind", x, x.holding(0, 1, 0, 1), 0, 0);
    }

    // ---- BEST and LOW

    private static void best() {
        Edge.promise(42, "BEST tune (2; 8: no TUNES).");
        for (int no : Edge.NO_NUMBERS) {
            Edge.no("band", 2, x -> x.best(no));
        }
        Edge.no("one behind the last", 2, x -> x.best(3));
        Edge.asks("best", x -> x.best(2));
        Edge.promise(43, "How many CELLS it would HOLD with that (2; 8).");
        for (int no : Edge.NO_NUMBERS) {
            Edge.no("band", 2, x -> x.bestLawns(no));
        }
        Edge.no("one behind the last", 2, x -> x.bestLawns(3));
        Edge.asks("bestLawns", x -> x.bestLawns(2));
        BandPark x = Check.made("park 1 by 1;band c at 0 0 strength 20 lips 9 plays hush;");
        Edge.promise(42, "8: no TUNES");
        Check.no("no tunes", x, x.best(0), 8);
        Check.no("2 ahead of 8", x, x.best(1), 2);
        Edge.promise(43, "(2; 8)");
        Check.no("no tunes", x, x.bestLawns(0), 8);
        Check.no("2 ahead of 8", x, x.bestLawns(1), 2);
    }

    private static void bestOfSeveral() {
        Edge.promise(42, "with which it would HOLD the most CELLS (LIPS not asked; all others as NOW), of several the first.");
        BandPark x = Check.made("park 6 by 5;fade 0;tune a loud 0 toll 0;tune b loud 5 toll 9;tune c loud 9 toll 9;tune d loud 9 toll 0;"
            + "band l at 0 0 strength 0 lips 0 plays a;band r at 5 4 strength 0 lips 9 plays b;");
        Check.told("c, d alike: c, for which it has no lips", x, x.best(0), 2, 0);
        Check.told("all", x, x.bestLawns(0), 30, 0);
        x.train(1, 4);
        Check.told("a blur at best: the first", x, x.best(0), 0, 0);
        Check.told("none", x, x.bestLawns(0), 0, 0);
        x.soothe(1, 8);
        Check.told("r is tired now: b", x, x.best(0), 1, 0);
        Check.told("all", x, x.bestLawns(0), 30, 0);
        Check.told("l plays a: r is heard by its strength", x, x.best(1), 0, 0);
        x.rain(true);
        x.train(1, 2);
        Check.told("rain takes 2: b is the first that is heard", x, x.best(1), 1, 0);
        Check.told("nothing is changed by it", x, x.plays(0), 0, 0);
        x = Check.made("park 6 by 1;fade 0;tune a loud 1 toll 0;tune b loud 3 toll 0;band l at 0 0 strength 0 lips 0;band m at 1 0 strength 0 lips 0;"
            + "band n at 2 0 strength 0 lips 0;band o at 3 0 strength 0 lips 0;band p at 4 0 strength 0 lips 0;band q at 5 0 strength 1 lips 0;");
        Check.told("all five others are silent: the first", x, x.best(0), 0, 0);
        Check.told("all", x, x.bestLawns(0), 6, 0);
        x.set(5, 0, 0);
        Check.told("the last of six plays: b", x, x.best(0), 1, 0);
        x.set(5, 0, 1);
        Check.told("and louder: none", x, x.bestLawns(0), 0, 0);
        Check.told("the last of six itself", x, x.best(5), 0, 0);
        x = Check.made("park 2 by 1;fade 9;pond 0 0;pond 1 0;tune a loud 1 toll 0;tune b loud 11 toll 0;band l at 0 0 strength 0 lips 0;");
        Edge.promise(43, "How many CELLS it would HOLD with that");
        Check.told("ponds are a cell each", x, x.bestLawns(0), 2, 0);
        Edge.promise(42, "with which it would HOLD the most CELLS");
        Check.told("b", x, x.best(0), 1, 0);
    }

    private static void low() {
        Edge.promise(44, "LOW toll (2; 8: with none).");
        for (int no : Edge.NO_NUMBERS) {
            Edge.no("band", 2, x -> x.low(no, 0, 0));
            Edge.no("column", 2, x -> x.low(0, no, 0));
            Edge.no("row", 2, x -> x.low(0, 0, no));
        }
        Edge.no("one behind the last", 2, x -> x.low(3, 0, 0));
        Edge.no("WIDE", 2, x -> x.low(0, 4, 0));
        Edge.no("DEEP", 2, x -> x.low(0, 0, 3));
        Edge.asks("low", x -> x.low(0, 0, 0));
        Edge.promise(44, "the least TOLL of the TUNES with which it would HOLD that CELL NOW (LIPS not asked).");
        BandPark x = Check.made("park 2 by 1;fade 0;tune a loud 9 toll 9;tune b loud 6 toll 5;tune c loud 4 toll 0;tune d loud 8 toll 5;"
            + "band l at 0 0 strength 0 lips 0;band r at 1 0 strength 1 lips 9;");
        Check.told("silence: toll 0", x, x.low(0, 0, 0), 0, 0);
        x.set(1, 0, 2);
        // r is heard by 5
        Check.told("b and d", x, x.low(0, 1, 0), 5, 0);
        x.train(1, 2);
        Check.told("6 is a blur with b: d", x, x.low(0, 1, 0), 5, 0);
        x.train(1, 4);
        Check.told("8 is a blur with d: a", x, x.low(0, 1, 0), 9, 0);
        x.train(1, 5);
        Check.no("9 is a blur with a", x, x.low(0, 1, 0), 8);
        Check.told("its own is not its rival", x, x.low(1, 0, 0), 0, 0);
        x.drop(1);
        x.rain(true);
        Check.told("c is heard by 2", x, x.low(0, 0, 0), 0, 0);
        x = Check.made("park 1 by 1;band l at 0 0 strength 20 lips 9;");
        Check.no("no tunes", x, x.low(0, 0, 0), 8);
        x = Check.made("park 1 by 1;tune a loud 0 toll 3;band l at 0 0 strength 0 lips 9;");
        Check.no("heard by 0", x, x.low(0, 0, 0), 8);
        x.train(0, 1);
        Check.told("heard by 1", x, x.low(0, 0, 0), 3, 0);
    }
}
