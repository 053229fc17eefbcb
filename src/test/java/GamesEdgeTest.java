/** Edges of promises 45 to 50: GAMES, alliances, TOGETHER. */
public final class GamesEdgeTest {
    public static void main(String[] args) throws Exception {
        Edge.begin(args);
        gameRefused();
        gameByTurns();
        gameFarthest();
        moveRefused();
        moves();
        movesWhenHushed();
        allyRefused();
        ally();
        stableRefused();
        stable();
        alliance();
        allianceOfSeveral();
        togetherRefused();
        together();
        Edge.end(45, 50);
    }

    // ---- GAME

    private static void gameRefused() {
        Edge.promise(45, "GAME (2; 5: one and itself, too).");
        for (int no : Edge.NO_NUMBERS) {
            Edge.no("band", 2, x -> x.game(no, 0, 1));
            Edge.no("other", 2, x -> x.game(0, no, 1));
            Edge.no("turns", 5, x -> x.game(0, 1, no));
            Edge.no("2 ahead of 5", 2, x -> x.game(no, 1, no));
            Edge.no("2 ahead of itself", 2, x -> x.game(no, no, 1));
        }
        Edge.no("one behind the last", 2, x -> x.game(3, 0, 1));
        Edge.no("one behind the last", 2, x -> x.game(0, 3, 1));
        Edge.no("one behind the last and itself", 2, x -> x.game(3, 3, 1));
        Edge.no("itself", 5, x -> x.game(0, 0, 1));
        Edge.no("itself, no turns", 5, x -> x.game(2, 2, 0));
        Edge.no("4", 5, x -> x.game(0, 1, 4));
        Edge.asks("0", x -> x.game(0, 1, 0));
        Edge.asks("3", x -> x.game(1, 2, 3));
    }

    /** Tunes of loud 1 and 5, both too dear; l is tired, r is heard by 0 2 4. */
    private static BandPark three() {
        return Check.made("park 3 by 1;fade 2;tune a loud 1 toll 9;tune b loud 5 toll 9;"
            + "band l at 0 0 strength 3 lips 0 plays b;band r at 2 0 strength 3 lips 9 plays a;");
    }

    private static void gameByTurns() {
        Edge.promise(45, "GAME of two and n turns (0 to 3): at first all play as NOW");
        BandPark x = three();
        Check.told("0: as now", x, x.game(0, 1, 0), -2, 0);
        Check.told("0: the other first", x, x.game(1, 0, 0), 2, 0);
        Edge.promise(45, "by turns, the first first, one changes to another TUNE, HUSH, or stays (LIPS not asked)");
        // with b, for which it has no lips, l is heard by 8 6 4; r by 0 2 4
        Check.told("1", x, x.game(0, 1, 1), 2, 0);
        // then r plays b, too: 4 6 8, and the middle is a blur
        Check.told("2", x, x.game(0, 1, 2), 0, 0);
        Check.told("3: it can do no better", x, x.game(0, 1, 3), 0, 0);
        // r with b: 4 6 8 against nothing
        Check.told("1: the other first", x, x.game(1, 0, 1), 3, 0);
        Check.told("2: the other first", x, x.game(1, 0, 2), 0, 0);
        Check.told("3: the other first", x, x.game(1, 0, 3), 0, 0);
        x = Check.made("park 3 by 1;fade 9;tune a loud 9 toll 0;band l at 0 0 strength 0 lips 0 plays a;band r at 1 0 strength 0 lips 0 plays a;"
            + "band m at 2 0 strength 20 lips 0;");
        Edge.promise(45, "at the end: CELLS that the first HOLDS less those of the second, by best play.");
        Check.told("others play as now, and count not", x, x.game(0, 1, 0), 0, 0);
        Check.told("staying is best", x, x.game(0, 1, 3), 0, 0);
        Check.told("m could take all", x, x.game(2, 0, 1), 3, 0);
        Check.told("l comes after it", x, x.game(2, 0, 2), 3, 0);
        Check.told("m comes after l", x, x.game(0, 2, 2), -3, 0);
    }

    private static void gameFarthest() {
        Edge.promise(45, "CELLS that the first HOLDS less those of the second");
        BandPark x = Check.made("park 6 by 5;fade 0;tune a loud 1 toll 0;tune b loud 2 toll 0;"
            + "band l at 0 0 strength 0 lips 0 plays b;band r at 5 4 strength 0 lips 0 plays a;");
        Check.told("all", x, x.game(0, 1, 0), 30, 0);
        Check.told("none", x, x.game(1, 0, 0), -30, 0);
        Check.told("the second makes it a blur", x, x.game(0, 1, 2), 0, 0);
        Check.told("the third turn comes too late", x, x.game(0, 1, 3), 0, 0);
        x.train(0, 20);
        Check.told("whatever the second does", x, x.game(0, 1, 2), 30, 0);
        Check.told("whatever it does first", x, x.game(1, 0, 3), -30, 0);
        x = Check.made("park 6 by 5;fade 0;tune s loud 0 toll 0;tune t loud 1 toll 0;band a at 0 0 strength 0 lips 0 plays s;"
            + "band b at 1 0 strength 0 lips 0;band c at 2 0 strength 0 lips 0;band d at 3 0 strength 0 lips 0;band e at 4 0 strength 0 lips 0;"
            + "band f at 5 0 strength 0 lips 0 plays t;");
        Check.told("the last of six", x, x.game(5, 0, 0), 30, 0);
        Check.told("against the last of six", x, x.game(0, 5, 0), -30, 0);
        Check.told("against the last of six: a blur", x, x.game(0, 5, 1), 0, 0);
        Check.told("two others: the last plays on", x, x.game(0, 1, 3), 0, 0);
        x = Check.made("park 4 by 1;fade 9;pond 0 0;tune a loud 9 toll 0;tune b loud 10 toll 0;band l at 0 0 strength 0 lips 0 plays a;"
            + "band r at 3 0 strength 0 lips 0 plays a;");
        Check.told("a pond is one cell", x, x.game(0, 1, 0), 0, 0);
        Check.told("for the second, too", x, x.game(1, 0, 0), 0, 0);
        Check.told("b holds two", x, x.game(0, 1, 1), 1, 0);
        Check.told("b holds two", x, x.game(1, 0, 1), 1, 0);
        x = Check.made("park 4 by 1;fade 0;tune a loud 0 toll 0;tune b loud 0 toll 0;tune c loud 0 toll 0;tune d loud 1 toll 0;tune e loud 2 toll 0;"
            + "tune f loud 3 toll 0;band l at 0 0 strength 0 lips 0 plays a;band r at 3 0 strength 0 lips 0 plays e;");
        Check.told("the last of six tunes", x, x.game(0, 1, 1), 4, 0);
        Check.told("and then of the second", x, x.game(0, 1, 2), 0, 0);
        Check.told("of the second first", x, x.game(1, 0, 2), 0, 0);
        x = Check.made("park 2 by 1;band l at 0 0 strength 20 lips 0;band r at 1 0 strength 0 lips 0;");
        for (int turns = 0; turns < 4; turns++) {
            Check.told("no tunes", x, x.game(0, 1, turns), 0, 0);
        }
    }

    // ---- MOVE

    private static void moveRefused() {
        Edge.promise(46, "(2; 5: turns 0, too; 8: it stays).");
        for (int no : Edge.NO_NUMBERS) {
            Edge.no("band", 2, x -> x.moveOf(no, 0, 1));
            Edge.no("other", 2, x -> x.moveOf(0, no, 1));
            Edge.no("turns", 5, x -> x.moveOf(0, 1, no));
            Edge.no("2 ahead of 5", 2, x -> x.moveOf(no, 1, no));
        }
        Edge.no("one behind the last", 2, x -> x.moveOf(3, 0, 1));
        Edge.no("one behind the last", 2, x -> x.moveOf(0, 3, 0));
        Edge.no("itself", 5, x -> x.moveOf(1, 1, 1));
        Edge.no("0", 5, x -> x.moveOf(0, 1, 0));
        Edge.no("4", 5, x -> x.moveOf(0, 1, 4));
        Edge.asks("1", x -> x.moveOf(2, 0, 1));
        Edge.asks("3", x -> x.moveOf(2, 1, 3));
    }

    private static void moves() {
        Edge.promise(46, "the first's first TUNE, of all that are as good the first; HUSH next, staying last.");
        BandPark x = three();
        Check.told("b", x, x.moveOf(0, 1, 1), 1, 0);
        Check.told("b", x, x.moveOf(1, 0, 1), 1, 0);
        Check.told("b", x, x.moveOf(0, 1, 2), 1, 0);
        x = Check.made("park 2 by 1;fade 9;tune a loud 9 toll 0;tune b loud 8 toll 0;tune c loud 9 toll 0;"
            + "band l at 0 0 strength 0 lips 0 plays b;band r at 1 0 strength 0 lips 0 plays b;");
        Check.told("a, c, and to stay are as good: a", x, x.moveOf(0, 1, 1), 0, 0);
        x.set(0, 0, 0);
        Check.told("it plays a: another one is b", x, x.moveOf(0, 1, 1), 1, 0);
        x = Check.made("park 2 by 1;fade 9;tune a loud 0 toll 0;band l at 0 0 strength 0 lips 0 plays a;band r at 1 0 strength 0 lips 0 plays a;");
        Check.told("hush is as good as to stay, and next", x, x.moveOf(0, 1, 1), 6, 0);
        Check.told("hush is as good as to stay, and next", x, x.moveOf(0, 1, 3), 6, 0);
        Edge.promise(46, "8: it stays");
        x = Check.made("park 2 by 1;fade 0;tune a loud 1 toll 0;tune b loud 2 toll 0;"
            + "band l at 0 0 strength 0 lips 0 plays b;band r at 1 0 strength 0 lips 0 plays a;");
        Check.no("all others are worse", x, x.moveOf(0, 1, 1), 8);
        Check.no("all others are worse", x, x.moveOf(0, 1, 2), 8);
        Check.told("r: b makes a blur", x, x.moveOf(1, 0, 1), 1, 0);
        x = Check.made("park 4 by 1;fade 0;tune a loud 0 toll 0;tune b loud 0 toll 0;tune c loud 0 toll 0;tune d loud 1 toll 0;tune e loud 2 toll 0;"
            + "tune f loud 3 toll 0;band l at 0 0 strength 0 lips 0 plays f;band r at 3 0 strength 0 lips 0 plays e;");
        Check.no("it plays the last of six, the only one that is good", x, x.moveOf(0, 1, 1), 8);
        Check.told("the second: f", x, x.moveOf(1, 0, 1), 5, 0);
        x = Check.made("park 2 by 1;fade 0;tune a loud 1 toll 0;band l at 0 0 strength 0 lips 0 plays a;band r at 1 0 strength 0 lips 0 plays a;");
        Check.no("one tune alone, which it plays", x, x.moveOf(0, 1, 1), 8);
    }

    private static void movesWhenHushed() {
        Edge.promise(46, "MOVE: the TUNE, or 6 for HUSH (2; 5: turns 0, too; 8: it stays).");
        BandPark x = Check.made("park 2 by 1;fade 0;band l at 0 0 strength 0 lips 0;band r at 1 0 strength 0 lips 0;");
        Check.no("no tunes: hush is to stay", x, x.moveOf(0, 1, 1), 8);
        x = Check.made("park 2 by 1;fade 9;tune a loud 9 toll 9;tune b loud 9 toll 9;band l at 0 0 strength 0 lips 0 plays b;"
            + "band r at 1 0 strength 0 lips 0;");
        Check.told("tired of b: a, and b, are both others", x, x.moveOf(0, 1, 1), 0, 0);
        x = Check.made("park 2 by 1;fade 0;tune z loud 0 toll 0;band l at 0 0 strength 0 lips 0;band r at 1 0 strength 0 lips 0;");
        Check.told("a tune that is not heard is as good", x, x.moveOf(0, 1, 1), 0, 0);
        x = Check.made("park 3 by 1;fade 0;tune a loud 5 toll 0;band l at 0 0 strength 0 lips 0;band r at 1 0 strength 0 lips 0;"
            + "band m at 2 0 strength 0 lips 0 plays a;");
        Check.told("against m it is a blur, and so it is without: a", x, x.moveOf(0, 1, 1), 0, 0);
    }

    // ---- alliances

    private static void allyRefused() {
        Edge.promise(47, "ALLY: how many CELLS (5; nobody: 0).");
        for (int no : Edge.NO_NUMBERS) {
            Edge.no("set", 5, x -> x.ally(no));
        }
        Edge.no("8, of three bands", 5, x -> x.ally(8));
        Edge.no("9, of three bands", 5, x -> x.ally(9));
        Edge.no("64", 5, x -> x.ally(64));
        Edge.asks("7", x -> x.ally(7));
        Edge.asks("nobody", x -> x.ally(0));
        BandPark x = Edge.busy();
        Check.told("nobody", x, x.ally(0), 0, 0);
        Check.told("all", x, x.ally(7), 12 - x.many(12), 0);
    }

    private static void ally() {
        Edge.promise(47, "together, is more than 0 and more than what any other BAND is HEARD by, NOW.");
        BandPark x = Check.made("park 4 by 1;fade 0;tune t loud 0 toll 0;band a at 0 0 strength 1 lips 0 plays t;band b at 1 0 strength 2 lips 0 plays t;"
            + "band c at 2 0 strength 3 lips 0 plays t;band d at 3 0 strength 3 lips 0 plays t;");
        Check.told("3 is no more than 3", x, x.ally(3), 0, 0);
        Check.told("3 and 1 is", x, x.ally(5), 4, 0);
        Check.told("3 and 2 is", x, x.ally(6), 4, 0);
        Check.told("one alone of two alike", x, x.ally(4), 0, 0);
        Check.told("both", x, x.ally(12), 4, 0);
        Check.told("all", x, x.ally(15), 4, 0);
        x.train(3, 2);
        Check.told("one alone, the most", x, x.ally(4), 4, 0);
        Check.told("against the other, not against all others together", x, x.ally(4), 4, 0);
        Check.told("2 and 1 is no more than 3", x, x.ally(3), 0, 0);
        Check.told("2 and 2 is", x, x.ally(10), 4, 0);
        x.rain(true);
        Check.told("c alone is heard, by 1", x, x.ally(4), 4, 0);
        Check.told("0 together is not more than 0", x, x.ally(11), 0, 0);
        x.train(2, 0);
        Check.told("silence", x, x.ally(15), 0, 0);
        x = Check.made("park 6 by 5;fade 0;tune t loud 1 toll 0;band a at 0 0 strength 0 lips 0 plays t;band b at 1 0 strength 0 lips 0;"
            + "band c at 2 0 strength 0 lips 0;band d at 3 0 strength 0 lips 0;band e at 4 0 strength 0 lips 0;band f at 5 0 strength 0 lips 0 plays t;");
        Check.told("63, of six", x, x.ally(63), 30, 0);
        Check.told("33", x, x.ally(33), 30, 0);
        Check.told("32: a blur alone", x, x.ally(32), 0, 0);
        Check.no("64", x, x.ally(64), 5);
        x = Check.made("park 6 by 5;fade 0;tune s loud 0 toll 0;tune t loud 1 toll 0;band a at 0 0 strength 0 lips 0 plays s;"
            + "band b at 1 0 strength 0 lips 0;band c at 2 0 strength 0 lips 0;band d at 3 0 strength 0 lips 0;band e at 4 0 strength 0 lips 0;"
            + "band f at 5 0 strength 0 lips 0 plays t;");
        Check.told("the last of six alone", x, x.ally(32), 30, 0);
        Check.told("all others", x, x.ally(31), 0, 0);
        x.set(5, 0, 6);
        Check.told("it plays hush", x, x.ally(63), 0, 0);
    }

    private static void stableRefused() {
        Edge.promise(48, "1 if a set is STABLE, else 0 (5: nobody, too).");
        for (int no : Edge.NO_NUMBERS) {
            Edge.no("set", 5, x -> x.stable(no));
        }
        Edge.no("nobody", 5, x -> x.stable(0));
        Edge.no("8, of three bands", 5, x -> x.stable(8));
        Edge.no("15, of three bands", 5, x -> x.stable(15));
        Edge.asks("7", x -> x.stable(7));
    }

    private static void stable() {
        Edge.promise(48, "STABLE, if the even part of these is no less for each of them than the CELLS that it HOLDS alone.");
        BandPark x = Check.made("park 5 by 1;fade 1;tune a loud 2 toll 0;band l at 0 0 strength 3 lips 0 plays a;band m at 2 0 strength 4 lips 0 plays a;"
            + "band r at 4 0 strength 3 lips 0 plays a;");
        // 5 4 3 2 1 / 4 5 6 5 4 / 1 2 3 4 5: l and r hold one each, m three
        for (int one = 1; one < 8; one *= 2) {
            Check.told("one alone", x, x.stable(one), 1, 0);
        }
        Check.told("4 by 2: 2 for l and r", x, x.stable(5), 1, 0);
        Check.told("4 by 2: less than 3 for m", x, x.stable(3), 0, 0);
        Check.told("5 by 3: less than 3 for m", x, x.stable(7), 0, 0);
        x = Check.made("park 4 by 1;fade 9;tune a loud 1 toll 0;band l at 0 0 strength 0 lips 0 plays a;band r at 1 0 strength 0 lips 0 plays a;"
            + "band m at 3 0 strength 0 lips 0;");
        Check.told("2 by 2: just 1 for each", x, x.stable(3), 1, 0);
        Check.told("1 by 2: a half is less than 1", x, x.stable(5), 0, 0);
        Check.told("2 by 3: two thirds are less than 1", x, x.stable(7), 0, 0);
        Check.told("none holds any", x, x.stable(4), 1, 0);
        x.drop(0);
        x.drop(1);
        for (int set = 1; set < 8; set++) {
            Check.told("silence: 0 is no less than 0", x, x.stable(set), 1, 0);
        }
    }

    private static void alliance() {
        Edge.promise(49, "(8: none).");
        BandPark x = new BandPark();
        Check.no("no bands", x, x.alliance(), 8);
        x = Check.made("park 1 by 1;tune a loud 1 toll 0;band l at 0 0 strength 0 lips 0 plays a;");
        Check.no("one band", x, x.alliance(), 8);
        x = Check.made("park 2 by 1;fade 9;tune a loud 1 toll 0;band l at 0 0 strength 0 lips 0 plays a;band r at 1 0 strength 0 lips 0;");
        Check.no("l would leave", x, x.alliance(), 8);
        x.set(1, 0, 0);
        Check.told("both stay", x, x.alliance(), 3, 0);
        Edge.asks("alliance", y -> y.alliance());
    }

    private static void allianceOfSeveral() {
        Edge.promise(49, "The set of two BANDS or more that is STABLE with the most CELLS by ALLY, of several the least as a number");
        BandPark x = Check.made("park 4 by 1;fade 9;tune t loud 1 toll 0;band a at 0 0 strength 0 lips 0;band b at 1 0 strength 0 lips 0 plays t;"
            + "band c at 2 0 strength 0 lips 0 plays t;band d at 3 0 strength 0 lips 0 plays t;");
        Check.told("b, c, d with three cells", x, x.alliance(), 14, 0);
        x.drop(3);
        Check.told("b, c with two", x, x.alliance(), 6, 0);
        x.drop(2);
        // {a, c}, {a, d}, {c, d}, {a, c, d} hold none, and with b it is none
        Check.told("none of a, c, d holds any: a, c", x, x.alliance(), 5, 0);
        x.drop(1);
        Check.told("all alike: the least", x, x.alliance(), 3, 0);
        x = Check.made("park 6 by 1;fade 9;tune t loud 1 toll 0;band a at 0 0 strength 0 lips 0 plays t;band b at 1 0 strength 0 lips 0 plays t;"
            + "band c at 2 0 strength 0 lips 0 plays t;band d at 3 0 strength 0 lips 0 plays t;band e at 4 0 strength 0 lips 0 plays t;"
            + "band f at 5 0 strength 0 lips 0 plays t;");
        Check.told("all six", x, x.alliance(), 63, 0);
    }

    // ---- TOGETHER

    private static final String BEATS = "tune a loud 1 toll 1 beats 1;tune b loud 1 toll 1 beats 99;tune c loud 1 toll 1 beats 98;"
        + "tune d loud 1 toll 1 beats 97;tune e loud 1 toll 1 beats 4;tune f loud 1 toll 1 beats 6;";

    private static void togetherRefused() {
        Edge.promise(50, "TOGETHER: the beat (2; 5: below 0, above 99; 8: never).");
        for (int no : Edge.NO_NUMBERS) {
            Edge.no("tune", 2, x -> x.together(no, 0, 0, 0));
            Edge.no("other", 2, x -> x.together(0, 0, no, 0));
            Edge.no("late", 5, x -> x.together(0, no, 1, 0));
            Edge.no("other late", 5, x -> x.together(0, 0, 1, no));
            Edge.no("2 ahead of 5", 2, x -> x.together(no, no, 0, 0));
        }
        Edge.no("one behind the last", 2, x -> x.together(3, 0, 0, 0));
        Edge.no("one behind the last", 2, x -> x.together(0, 0, 3, 0));
        Edge.no("HUSH", 2, x -> x.together(6, 0, 0, 0));
        Edge.no("100", 5, x -> x.together(0, 100, 0, 0));
        Edge.no("100", 5, x -> x.together(0, 0, 0, 100));
        Edge.no("never: beats 4 and 6", 8, x -> x.together(0, 0, 1, 1));
        Edge.no("never: beats 4 and 4", 8, x -> x.together(0, 0, 2, 2));
        Edge.asks("together", x -> x.together(0, 99, 1, 99));
    }

    private static void together() {
        Edge.promise(50, "the first beat (from 0 on) on which both begin a bar (the TUNE begins one each BEATS beats, from where it is begun on).");
        BandPark x = Check.made(BEATS);
        Check.told("both at 0", x, x.together(1, 0, 2, 0), 0, 0);
        Check.told("a tune and itself", x, x.together(4, 0, 4, 0), 0, 0);
        Check.told("itself, a bar late", x, x.together(4, 0, 4, 8), 8, 0);
        Check.no("itself, no bar late", x, x.together(4, 0, 4, 9), 8);
        Check.told("not ahead of its beginning", x, x.together(4, 0, 5, 4), 4, 0);
        Check.told("not ahead of both beginnings", x, x.together(4, 20, 5, 2), 20, 0);
        Check.told("behind the later one", x, x.together(4, 22, 5, 2), 26, 0);
        Check.told("99 late", x, x.together(0, 99, 0, 0), 99, 0);
        Check.told("99 late, both", x, x.together(1, 99, 2, 99), 99, 0);
        Check.told("99 each", x, x.together(0, 0, 1, 99), 99, 0);
        for (int late = 0; late <= 99; late += 9) {
            x = Check.made(BEATS);
            for (int other = 0; other <= 99; other += 11) {
                Check.told("99 and 98", x, x.together(1, late, 2, other), first(99, late, 98, other), 0);
                Check.told("98 and 97", x, x.together(2, late, 3, other), first(98, late, 97, other), 0);
                int want = first(4, late, 6, other);
                Check.told("4 and 6", x, x.together(4, late, 5, other), want, want < 0 ? 8 : 0);
            }
        }
        x = new BandPark();
        Check.no("no tunes", x, x.together(0, 0, 0, 0), 2);
    }

    private static int first(int beats, int late, int otherBeats, int otherLate) {
        for (int beat = Math.max(late, otherLate); beat < 20000; beat++) {
            if ((beat - late) % beats == 0 && (beat - otherLate) % otherBeats == 0) {
                return beat;
            }
        }
        return -1;
    }
}
