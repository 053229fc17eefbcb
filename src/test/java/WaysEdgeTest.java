import java.math.BigInteger;

/** Edges of promises 51 to 55: LIPS from a TRAY, QUIET ways, WET. */
public final class WaysEdgeTest {
    public static void main(String[] args) throws Exception {
        Edge.begin(args);
        fitsRefused();
        fitsInOrder();
        fitsNumbers();
        fitsNone();
        fitsByProgramme();
        fitsFarthest();
        fitsAtRefused();
        fitsAt();
        quietRefused();
        quiet();
        quietSteps();
        quietAround();
        wetRefused();
        wet();
        Edge.end(51, 55);
    }

    // ---- LIPS

    /** In a busy park tray 0 has -1 0 0 0 77, tray 1 has 0 and far below in place 1, tray 2 has 1, then 0, and 2 in place 24 of 30. */
    private static void fitsRefused() {
        Edge.promise(51, "LIPS: with how many (1; 2; 3; 4; 5).");
        for (int no : Edge.NO_NUMBERS) {
            Edge.no("tray", 1, x -> x.fits(0, no, 0));
            Edge.no("band", 2, x -> x.fits(no, 2, 0));
            Edge.no("n", no < 0 ? 5 : 4, x -> x.fits(0, 2, no));
        }
        Edge.no("tray 4", 1, x -> x.fits(0, 4, 0));
        Edge.no("one behind the last", 2, x -> x.fits(3, 2, 0));
        Edge.no("missing", 3, x -> x.fits(0, 3, 0));
        Edge.no("too few numbers", 4, x -> x.fits(0, 1, 4));
        Edge.no("too few numbers", 4, x -> x.fits(0, 2, 31));
        Edge.no("25", 5, x -> x.fits(0, 2, 25));
        Edge.no("-1", 5, x -> x.fits(0, 2, -1));
        Edge.promise(51, "in a TRAY neither 1 nor 0, too");
        Edge.no("-1 in place 0", 5, x -> x.fits(0, 0, 1));
        Edge.no("far below in place 1", 5, x -> x.fits(0, 1, 2));
        Edge.asks("1, then 0; 2 in place 24 is not asked", x -> x.fits(0, 2, 24));
        Edge.asks("place 1 is not asked", x -> x.fits(0, 1, 1));
        Edge.asks("none is asked", x -> x.fits(0, 0, 0));
    }

    private static void fitsInOrder() {
        Edge.promise(51, "STATUS of a call is the first of these that holds");
        Edge.no("1 ahead of 2", 1, x -> x.fits(9, 4, 0));
        Edge.no("1 ahead of 5", 1, x -> x.fits(0, 4, -1));
        Edge.no("2 ahead of 3", 2, x -> x.fits(9, 3, 0));
        Edge.no("2 ahead of 4", 2, x -> x.fits(9, 0, 6));
        Edge.no("2 ahead of 5", 2, x -> x.fits(9, 0, 1));
        Edge.no("3 ahead of 4", 3, x -> x.fits(0, 3, 1));
        Edge.no("3 ahead of 5", 3, x -> x.fits(0, 3, -1));
        Edge.no("4 ahead of 5: a number that is neither", 4, x -> x.fits(0, 0, 6));
        Edge.no("4 ahead of 5: above 24", 4, x -> x.fits(0, 0, 25));
    }

    private static void fitsNumbers() {
        Edge.promise(51, "in a TRAY neither 1 nor 0, too");
        for (int sort = 0; sort < 4; sort++) {
            for (long v : new long[] {-1, 2, 3, 127, -128}) {
                BandPark x = Check.made(Edge.PARK);
                x.tray(0, sort, 24);
                x.write(0, 23, v);
                Check.no("neither", x, x.fits(2, 0, 24), 5);
                Check.told("not asked", x, x.fits(2, 0, 23), 5, 0);
            }
            BandPark x = Check.made(Edge.PARK);
            x.tray(0, sort, 24);
            x.write(0, 0, 1L << (8 << sort));
            Check.told("cut to 0, or 1 in 64 bits", x, x.fits(2, 0, 1), sort == 3 ? 0 : 5, 0);
        }
        BandPark x = Check.made(Edge.PARK);
        x.tray(0, 3, 1);
        x.write(0, 0, 1L << 32);
        Check.no("its lower half is 0", x, x.fits(2, 0, 1), 5);
        x.write(0, 0, (1L << 32) + 1);
        Check.no("its lower half is 1", x, x.fits(2, 0, 1), 5);
    }

    private static void fitsNone() {
        Edge.promise(51, "in n HOURS (0 to 24) one behind the other");
        BandPark x = Check.made("park 2 by 1;tune a loud 1 toll 9;band l at 0 0 strength 1 lips 99 plays a;band r at 1 0 strength 1 lips 0 plays a;");
        x.tray(0, 0, 0);
        Check.told("n 0: all of 0 to 99", x, x.fits(0, 0, 0), 100, 0);
        Check.told("n 0: 0 alone", x, x.fits(1, 0, 0), 1, 0);
        Check.no("n 1 of a row of none", x, x.fits(0, 0, 1), 4);
        x.tray(0, 0, 25);
        Check.no("n 25, though there are 25 numbers", x, x.fits(0, 0, 25), 5);
        Check.no("n 25, though there are 25 numbers", x, x.fitsAt(1, 0, 25, 0), 5);
        x.tray(0, 0, 24);
        Check.told("n 24: tired always can't be, by rest 2", x, x.fits(0, 0, 24), 0, 0);
        Check.told("n 24: the most is 0, so that it is always tired", x, x.fits(1, 0, 24), 1, 0);
        x.write(0, 23, 1);
        Check.told("the last number counts", x, x.fits(1, 0, 24), 0, 0);
        Check.told("without it", x, x.fits(1, 0, 23), 1, 0);
    }

    private static void fitsByProgramme() {
        Edge.promise(51, "that can be, by its PROGRAMME, TOLLS and REST.");
        BandPark x = Check.made("park 1 by 1;rest 2;tune a loud 1 toll 3;tune z loud 1 toll 0;band b at 0 0 strength 1 lips 10 plays a hush z;");
        x.tray(0, 0, 24);
        Check.told("hush in hour 0: tired with 0 to 2", x, x.fits(0, 0, 1), 3, 0);
        Check.told("hush in hour 1, too", x, x.fits(0, 0, 2), 3, 0);
        Check.told("z can't be hush", x, x.fits(0, 0, 3), 0, 0);
        x.write(0, 2, 1);
        Check.told("z is played without lips", x, x.fits(0, 0, 3), 3, 0);
        // 4 to 6 lips are left for a in hour 3
        Check.told("then a is not tired", x, x.fits(0, 0, 4), 0, 0);
        x.write(0, 3, 1);
        Check.told("then a is played", x, x.fits(0, 0, 4), 3, 0);
        x.write(0, 1, 1);
        Check.told("who wants hush plays none", x, x.fits(0, 0, 2), 0, 0);
        x.write(0, 0, 1);
        x.write(0, 1, 0);
        Check.told("a in hour 0: 3 to 10", x, x.fits(0, 0, 3), 8, 0);
        // 0 to 7 behind it, 2 to 9 behind the rest: a in hour 3 asks 3
        Check.told("a in hour 3: 4 to 10", x, x.fits(0, 0, 4), 7, 0);
        x.rule(5, 0);
        Check.told("rest 0: 6 to 10", x, x.fits(0, 0, 4), 5, 0);
        Edge.promise(51, "from HOUR 0 on");
        x.hour(1);
        x.soothe(0, 0);
        Check.told("neither the hour nor the lips now matter", x, x.fits(0, 0, 4), 5, 0);
        x.drop(0);
        x.drop(0);
        x.drop(0);
        Check.told("no programme plays none", x, x.fits(0, 0, 1), 0, 0);
        x.write(0, 0, 0);
        Check.told("no programme: hush", x, x.fits(0, 0, 2), 11, 0);
    }

    private static void fitsFarthest() {
        Edge.promise(51, "with which LIPS in HOUR 0 (0 to the most that it ever has)");
        BandPark x = Check.made("park 1 by 1;rest 9;tune a loud 1 toll 4;band b at 0 0 strength 1 lips 99 plays a;");
        x.tray(0, 3, 60);
        for (int i = 0; i < 24; i++) {
            x.write(0, i, 1);
        }
        Check.told("24 times 4: 96 to 99", x, x.fits(0, 0, 24), 4, 0);
        Check.told("the least", x, x.fitsAt(0, 0, 24, 0), 96, 0);
        Check.told("the most", x, x.fitsAt(0, 0, 24, 1), 99, 0);
        x.write(0, 23, 0);
        Check.told("tired in the last: 92 to 95", x, x.fits(0, 0, 24), 4, 0);
        Check.told("the least", x, x.fitsAt(0, 0, 24, 0), 92, 0);
        Check.told("the most", x, x.fitsAt(0, 0, 24, 1), 95, 0);
        x = Check.made("park 1 by 1;rest 9;tune a loud 1 toll 4;band b at 0 0 strength 1 lips 8 plays hush a a a;");
        x.tray(0, 0, 4);
        x.write(0, 1, 1);
        x.write(0, 2, 1);
        Check.told("rests to 8, not more, whatever it had", x, x.fits(0, 0, 4), 9, 0);
    }

    private static void fitsAtRefused() {
        Edge.promise(52, "(1; 2; 3; 4; 5: what, too; 8: none).");
        for (int no : Edge.NO_NUMBERS) {
            Edge.no("tray", 1, x -> x.fitsAt(0, no, 0, 0));
            Edge.no("band", 2, x -> x.fitsAt(no, 2, 0, 0));
            Edge.no("n", no < 0 ? 5 : 4, x -> x.fitsAt(0, 2, no, 0));
            Edge.no("what", 5, x -> x.fitsAt(0, 2, 1, no));
        }
        Edge.no("what 2", 5, x -> x.fitsAt(0, 2, 1, 2));
        Edge.no("tray 4", 1, x -> x.fitsAt(0, 4, 0, 0));
        Edge.no("one behind the last", 2, x -> x.fitsAt(3, 2, 0, 0));
        Edge.no("missing", 3, x -> x.fitsAt(0, 3, 0, 0));
        Edge.no("too few numbers", 4, x -> x.fitsAt(0, 1, 4, 0));
        Edge.no("25", 5, x -> x.fitsAt(0, 2, 25, 0));
        Edge.no("neither 1 nor 0", 5, x -> x.fitsAt(0, 0, 1, 0));
        Edge.no("1 ahead of what", 1, x -> x.fitsAt(0, 4, 0, 2));
        Edge.no("2 ahead of what", 2, x -> x.fitsAt(3, 2, 0, 2));
        Edge.no("3 ahead of what", 3, x -> x.fitsAt(0, 3, 0, 2));
        Edge.no("4 ahead of what", 4, x -> x.fitsAt(0, 1, 4, 2));
        Edge.no("none: tuba plays none", 8, x -> x.fitsAt(2, 2, 1, 0));
        Edge.no("none: tuba plays none", 8, x -> x.fitsAt(2, 2, 1, 1));
        Edge.no("5 ahead of none", 5, x -> x.fitsAt(2, 2, 1, 2));
        Edge.asks("the least", x -> x.fitsAt(0, 2, 1, 0));
        Edge.asks("the most", x -> x.fitsAt(0, 2, 1, 1));
    }

    private static void fitsAt() {
        Edge.promise(52, "The least of these (what 0), the most (1)");
        BandPark x = Check.made("park 2 by 1;rest 2;tune a loud 1 toll 3;band b at 0 0 strength 1 lips 10 plays a;band c at 1 0 strength 1 lips 0;");
        x.tray(0, 0, 24);
        Check.told("n 0: 0", x, x.fitsAt(0, 0, 0, 0), 0, 0);
        Check.told("n 0: the most that it ever has", x, x.fitsAt(0, 0, 0, 1), 10, 0);
        Check.told("of one alone: 0", x, x.fitsAt(1, 0, 24, 0), 0, 0);
        Check.told("of one alone: 0", x, x.fitsAt(1, 0, 24, 1), 0, 0);
        Check.told("tired: 0", x, x.fitsAt(0, 0, 1, 0), 0, 0);
        Check.told("tired: 2", x, x.fitsAt(0, 0, 1, 1), 2, 0);
        Check.told("tired twice: 0 alone", x, x.fitsAt(0, 0, 2, 1), 0, 0);
        Check.no("tired three times", x, x.fitsAt(0, 0, 3, 1), 8);
        x.write(0, 0, 1);
        Check.told("played, then tired: 3", x, x.fitsAt(0, 0, 2, 0), 3, 0);
        Check.told("played, then tired: 5", x, x.fitsAt(0, 0, 2, 1), 5, 0);
        x.soothe(0, 0);
        x.soothe(1, 0);
        Check.told("the lips now do not matter: 3", x, x.fitsAt(0, 0, 2, 0), 3, 0);
        Check.told("the lips now do not matter: 5", x, x.fitsAt(0, 0, 2, 1), 5, 0);
        Check.told("played: 10", x, x.fitsAt(0, 0, 1, 1), 10, 0);
        x.hour(1);
        Check.told("nor does the hour: 10", x, x.fitsAt(0, 0, 1, 1), 10, 0);
        Check.told("nor does the hour: 3", x, x.fitsAt(0, 0, 1, 0), 3, 0);
    }

    // ---- QUIET ways

    private static void quietRefused() {
        Edge.promise(53, "QUIET way: what is HEARD in its loudest CELL (2).");
        for (int no : Edge.NO_NUMBERS) {
            Edge.no("column", 2, x -> x.quiet(no, 0, 0, 0));
            Edge.no("row", 2, x -> x.quiet(0, no, 0, 0));
            Edge.no("to column", 2, x -> x.quiet(0, 0, no, 0));
            Edge.no("to row", 2, x -> x.quiet(0, 0, 0, no));
        }
        Edge.no("WIDE", 2, x -> x.quiet(4, 0, 0, 0));
        Edge.no("DEEP", 2, x -> x.quiet(0, 3, 0, 0));
        Edge.no("to WIDE", 2, x -> x.quiet(0, 0, 4, 0));
        Edge.no("to DEEP", 2, x -> x.quiet(0, 0, 0, 3));
        Edge.asks("quiet", x -> x.quiet(0, 0, 3, 2));
        Edge.promise(54, "How many steps (2).");
        for (int no : Edge.NO_NUMBERS) {
            Edge.no("column", 2, x -> x.quietSteps(no, 0, 0, 0));
            Edge.no("row", 2, x -> x.quietSteps(0, no, 0, 0));
            Edge.no("to column", 2, x -> x.quietSteps(0, 0, no, 0));
            Edge.no("to row", 2, x -> x.quietSteps(0, 0, 0, no));
        }
        Edge.no("WIDE", 2, x -> x.quietSteps(4, 0, 0, 0));
        Edge.no("DEEP", 2, x -> x.quietSteps(0, 3, 0, 0));
        Edge.no("to WIDE", 2, x -> x.quietSteps(0, 0, 4, 0));
        Edge.no("to DEEP", 2, x -> x.quietSteps(0, 0, 0, 3));
        Edge.asks("quietSteps", x -> x.quietSteps(0, 0, 3, 2));
    }

    private static void quiet() {
        Edge.promise(53, "(both ends, too; by the BAND HEARD the most there)");
        BandPark x = Check.made("park 3 by 3;fade 4;tune a loud 9 toll 0;band m at 1 1 strength 0 lips 0 plays a;");
        // 1 5 1 / 5 9 5 / 1 5 1
        Check.told("from a cell to itself", x, x.quiet(0, 0, 0, 0), 1, 0);
        Check.told("the middle to itself", x, x.quiet(1, 1, 1, 1), 9, 0);
        Check.told("to the middle", x, x.quiet(0, 0, 1, 1), 9, 0);
        Check.told("from the middle", x, x.quiet(1, 1, 2, 2), 9, 0);
        Check.told("around it", x, x.quiet(1, 0, 1, 2), 5, 0);
        Check.told("there is no way but by 5", x, x.quiet(0, 0, 2, 2), 5, 0);
        x.rain(true);
        Check.told("rain", x, x.quiet(0, 0, 2, 2), 3, 0);
        x.drop(0);
        Check.told("silence", x, x.quiet(0, 0, 2, 2), 0, 0);
        x = Check.made("park 2 by 1;fade 0;tune a loud 20 toll 0;tune b loud 3 toll 0;band l at 0 0 strength 20 lips 0 plays a;"
            + "band r at 1 0 strength 20 lips 0 plays a;");
        Check.told("the greatest; a blur counts as one of them, not as both", x, x.quiet(0, 0, 1, 0), 40, 0);
        x.set(0, 0, 1);
        Check.told("the loudest of them", x, x.quiet(0, 0, 0, 0), 40, 0);
        x = Check.made("park 1 by 1;");
        Check.told("one cell", x, x.quiet(0, 0, 0, 0), 0, 0);
    }

    private static void quietSteps() {
        Edge.promise(54, "from CELL to CELL beside (4)");
        BandPark x = Check.made("park 6 by 5;");
        Check.told("to itself", x, x.quietSteps(5, 4, 5, 4), 0, 0);
        Check.told("beside", x, x.quietSteps(5, 4, 5, 3), 1, 0);
        Check.told("across a corner", x, x.quietSteps(0, 0, 1, 1), 2, 0);
        Check.told("from end to end", x, x.quietSteps(0, 0, 5, 4), 9, 0);
        Check.told("from end to end", x, x.quietSteps(5, 0, 0, 4), 9, 0);
        Check.told("the end of a row is not beside the next one's beginning", x, x.quietSteps(5, 0, 0, 1), 6, 0);
        x = Check.made("park 1 by 5;");
        Check.told("one column", x, x.quietSteps(0, 4, 0, 0), 4, 0);
        x = Check.made("park 6 by 1;");
        Check.told("one row", x, x.quietSteps(5, 0, 0, 0), 5, 0);
    }

    private static void quietAround() {
        Edge.promise(54, "is the least; then with the fewest steps.");
        BandPark x = Check.made("park 3 by 3;fade 4;tune a loud 9 toll 0;band m at 1 1 strength 0 lips 0 plays a;");
        // 1 5 1 / 5 9 5 / 1 5 1
        Check.told("around the middle", x, x.quietSteps(1, 0, 1, 2), 4, 0);
        Check.told("with 5 allowed anyway", x, x.quietSteps(0, 0, 2, 0), 2, 0);
        Check.told("from the middle nothing is louder: straight", x, x.quietSteps(1, 1, 1, 1), 0, 0);
        Check.told("to the middle", x, x.quietSteps(0, 0, 1, 1), 2, 0);
        Check.told("to the middle from the side", x, x.quietSteps(0, 1, 1, 1), 1, 0);
        x = Check.made("park 6 by 5;fade 9;tune a loud 1 toll 0;band p at 1 0 strength 0 lips 0 plays a;"
            + "band q at 1 1 strength 0 lips 0 plays a;band r at 1 2 strength 0 lips 0 plays a;band s at 1 3 strength 0 lips 0 plays a;"
            + "band t at 3 4 strength 0 lips 0 plays a;band u at 3 3 strength 0 lips 0 plays a;");
        // a wall in column 1 down to row 3, another one in column 3 up to row 3
        Edge.promise(53, "is the least");
        Check.told("all the way around", x, x.quiet(0, 0, 5, 4), 0, 0);
        Edge.promise(54, "then with the fewest steps.");
        Check.told("down 4, along 2, up 2, along 3, down 2", x, x.quietSteps(0, 0, 5, 4), 13, 0);
        Check.told("back again", x, x.quietSteps(5, 4, 0, 0), 13, 0);
        x.move(5, 1, 4);
        Edge.promise(53, "is the least");
        Check.told("the wall is whole", x, x.quiet(0, 0, 5, 4), 1, 0);
        Edge.promise(54, "then with the fewest steps.");
        Check.told("so it goes straight", x, x.quietSteps(0, 0, 5, 4), 9, 0);
    }

    // ---- WET

    private static void wetRefused() {
        Edge.promise(55, "The FRACTION is WET of k (0 to 12) of n HOURS (0 to 12) (5).");
        for (int no : Edge.NO_NUMBERS) {
            Edge.not("n", 5, x -> x.wet(no, 0));
            Edge.not("k", 5, x -> x.wet(12, no));
            Edge.not("both", 5, x -> x.wet(no, no));
        }
        Edge.not("n 13", 5, x -> x.wet(13, 0));
        Edge.not("k 13", 5, x -> x.wet(12, 13));
        Edge.not("k 13 of 0", 5, x -> x.wet(0, 13));
    }

    private static void wet() {
        Edge.promise(55, "the odds that it rains in k or more of n HOURS, by ODDS sixteenths each.");
        for (int odds : new int[] {0, 1, 4, 7, 8, 15, 16}) {
            for (int n = 0; n <= 12; n++) {
                BandPark x = Check.made("odds " + odds + ";");
                for (int k = 0; k <= 12; k++) {
                    BigInteger top = BigInteger.ZERO;
                    for (int j = k; j <= n; j++) {
                        top = top.add(BigInteger.valueOf(odds).pow(j).multiply(BigInteger.valueOf(16 - odds).pow(n - j)).multiply(choose(n, j)));
                    }
                    BigInteger bottom = BigInteger.valueOf(16).pow(n);
                    BigInteger common = top.gcd(bottom);
                    String what = "odds " + odds + ": " + k + " of " + n;
                    Check.flag(what, x, x.wet(n, k), 0);
                    Check.same(what + " top", x.top(), top.divide(common).longValueExact());
                    Check.same(what + " bottom", x.bottom(), bottom.divide(common).longValueExact());
                }
            }
        }
        BandPark x = new BandPark();
        Check.flag("0 or more of 0", x, x.wet(0, 0), 0);
        Check.same("always", x.top() * 10 + x.bottom(), 11);
        Check.flag("1 or more of 0", x, x.wet(0, 1), 0);
        Check.same("never", x.top() * 10 + x.bottom(), 1);
        Check.flag("12 or more of 11", x, x.wet(11, 12), 0);
        Check.same("never", x.top() * 10 + x.bottom(), 1);
        x.rain(true);
        Check.flag("whether it rains now does not matter", x, x.wet(1, 1), 0);
        Check.same("a quarter", x.top() * 10 + x.bottom(), 14);
    }

    private static BigInteger choose(int n, int k) {
        BigInteger ways = BigInteger.ONE;
        for (int i = 0; i < k; i++) {
            ways = ways.multiply(BigInteger.valueOf(n - i)).divide(BigInteger.valueOf(i + 1));
        }
        return ways;
    }
}
