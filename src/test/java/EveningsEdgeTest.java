/** Edges of promises 56 to 58: EVENINGS lived, what was lived, the mean. */
public final class EveningsEdgeTest {
    public static void main(String[] args) throws Exception {
        Edge.begin(args);
        refused();
        noEvenings();
        weatherMissed();
        setsMissed();
        hoursMissed();
        anyByOdds();
        draws();
        whensOfHolds();
        whensOfTiredAndRain();
        loops();
        stops();
        atMost300();
        stepsLeft();
        allIsAsItIsThen();
        livedRefused();
        lived();
        livedTired();
        meanRefused();
        mean();
        meanLeavesAll();
        Edge.end(56, 58);
    }

    private static BandPark with(String park, String evenings) {
        BandPark x = Check.made(park);
        Check.evenings(x, evenings);
        Check.same("taken: " + evenings, x.status(), 0);
        return x;
    }

    /** Lives a park's evenings: how many steps were done, how many of them missed. */
    private static void lives(String what, BandPark x, int done, int missed) {
        Check.told(what, x, x.live(0), done, 0);
        Check.told(what + ": missed", x, x.lived(0), missed, 0);
    }

    private static void refused() {
        Edge.promise(56, "LIVED by a seed (0 to 9,999)");
        for (int no : Edge.NO_NUMBERS) {
            Edge.no("seed", 5, x -> x.live(no));
        }
        Edge.no("10,000", 5, x -> x.live(10000));
        for (int seed : new int[] {0, 9999}) {
            BandPark x = Edge.bare();
            x.live(seed);
            Check.same("seed " + seed, x.status(), 0);
            Check.told("three hours", x, x.many(7), 9, 0);
        }
    }

    private static void noEvenings() {
        Edge.promise(56, "LIVED: how many STEPS were done (5; 8: no EVENINGS).");
        BandPark x = Check.made(Edge.PARK);
        Check.no("none at first", x, x.live(0), 8);
        Check.no("none at first", x, x.live(9999), 8);
        Check.no("5 ahead of 8", x, x.live(-1), 5);
        Check.no("5 ahead of 8", x, x.live(10000), 5);
        Check.no("a fault", x, Check.evenings(x, "hour;"), 10);
        Check.no("none still", x, x.live(0), 8);
        Check.evenings(x, "calm;");
        Check.told("one", x, x.live(0), 1, 0);
        Check.park(x, Edge.PARK);
        Check.no("none of a new park", x, x.live(0), 8);
        Check.told("EVENINGS of no STEPS", x, Check.evenings(x, ""), 0, 0);
        Check.told("none is done", x, x.live(0), 0, 0);
        for (int what = 0; what < 5; what++) {
            Check.told("nothing was", x, x.lived(what), 0, 0);
        }
        Check.told("the hour stays", x, x.many(7), 0, 0);
    }

    // ---- MISSED

    private static void weatherMissed() {
        Edge.promise(56, "a wind that blows so, a calm, rain, dry when it is so");
        lives("calm in a calm", with(Edge.PARK, "calm;"), 1, 1);
        lives("dry when it is dry", with(Edge.PARK, "dry;"), 1, 1);
        for (int to = 0; to < 4; to++) {
            BandPark x = with(Edge.PARK, "wind " + to + ";wind " + to + ";");
            lives("a wind twice", x, 2, 1);
            Check.told("it blows", x, x.many(8), to, 0);
            x = with(Edge.PARK, "wind " + to + ";calm;calm;wind " + (to + 1) % 4 + ";wind " + to + ";");
            lives("winds that turn", x, 5, 1);
            Check.told("it blows", x, x.many(8), to, 0);
        }
        BandPark x = with(Edge.PARK, "rain;rain;dry;dry;rain;");
        lives("rain twice, dry twice", x, 5, 2);
        Check.told("it rains", x, x.many(9), 1, 0);
        x.rain(false);
        x.wind(2);
        Check.evenings(x, "dry;wind 2;calm;rain;");
        lives("as it is when it is lived", x, 4, 2);
    }

    private static void setsMissed() {
        Edge.promise(56, "a set of a place that the PROGRAMME has not.");
        BandPark x = with(Edge.PARK, "set north 1 polka;");
        lives("the last place", x, 1, 0);
        Check.told("set", x, x.entry(0, 1), 2, 0);
        x = with(Edge.PARK, "set north 2 polka;");
        lives("just behind", x, 1, 1);
        Check.told("not set", x, x.band(0, 6), 2, 0);
        lives("5 of two", with(Edge.PARK, "set north 5 hush;"), 1, 1);
        lives("0 of none", with(Edge.PARK, "set tuba 0 hush;"), 1, 1);
        x = with(Edge.PARK, "set north 0 hush;set south 1 march;");
        lives("hush, a tune", x, 2, 0);
        Check.told("hush", x, x.entry(0, 0), 6, 0);
        Check.told("the other stays", x, x.entry(0, 1), 1, 0);
        Check.told("a tune", x, x.entry(1, 1), 0, 0);
        lives("the same again is not missed", x, 2, 0);
        x = with(Edge.PARK, "set north 5 waltz;");
        for (int k = 2; k < 6; k++) {
            x.set(0, k, 6);
        }
        lives("place 5 of six", x, 1, 0);
        Check.told("place 5 of six", x, x.entry(0, 5), 1, 0);
        x.drop(0);
        lives("place 5 of five", x, 1, 1);
    }

    private static BandPark late(int hour, String evenings) {
        BandPark x = Check.made("park 1 by 1;tune a loud 1 toll 0;band b at 0 0 strength 1 lips 0 plays a;");
        for (int i = 0; i < 100; i++) {
            x.hour(99);
        }
        x.hour(hour - 9900);
        Check.evenings(x, evenings);
        return x;
    }

    private static void hoursMissed() {
        Edge.promise(56, "HOURS beyond 9,999 (as a whole)");
        BandPark x = late(9979, "hour 20;");
        lives("just to 9,999", x, 1, 0);
        Check.told("9,999", x, x.many(7), 9999, 0);
        x = late(9980, "hour 20;");
        lives("one beyond", x, 1, 1);
        Check.told("none of them", x, x.many(7), 9980, 0);
        Check.told("no hours", x, x.lived(1), 0, 0);
        Check.told("no points", x, x.lived(2), 0, 0);
        x = late(9980, "hour 20;hour 19;hour 1;");
        lives("fewer can be", x, 3, 2);
        Check.told("19", x, x.lived(1), 19, 0);
        Check.told("19", x, x.lived(2), 19, 0);
        x = late(9999, "hour 1;rain;");
        lives("no more at all", x, 2, 1);
        Check.told("but other steps", x, x.many(9), 1, 0);
    }

    // ---- any

    private static void anyByOdds() {
        Edge.promise(56, "any: it rains, if a draw by 16 is below ODDS, else it is dry; then the WIND by a draw by 5 (4: CALM).");
        for (int seed = 0; seed <= 9999; seed += 101) {
            int s = (seed * 2971 + 10781) % 65536;
            int sixteenth = s / 8 % 16;
            s = (s * 2971 + 10781) % 65536;
            int wind = s / 8 % 5;
            for (int odds : new int[] {0, sixteenth, sixteenth + 1, 16}) {
                BandPark x = with("odds " + odds + ";", "any;");
                Check.told("done", x, x.live(seed), 1, 0);
                Check.told("rain by odds " + odds, x, x.many(9), sixteenth < odds ? 1 : 0, 0);
                Check.told("wind", x, x.many(8), wind, 0);
                Check.told("never missed", x, x.lived(0), 0, 0);
                Check.told("the same again", x, x.live(seed), 1, 0);
                Check.told("never missed, though it is so", x, x.lived(0), 0, 0);
            }
            BandPark x = with("odds 0;", "any;");
            x.rain(true);
            x.live(seed);
            Check.told("dry by odds 0", x, x.many(9), 0, 0);
        }
    }

    private static void draws() {
        Edge.promise(56, "s, at first the seed, becomes what is left of s times 2,971 and 10,781 by 65,536; the draw by n is the rest of s by 8, rounded down, by n.");
        for (int seed : new int[] {0, 1, 7, 4711, 9998, 9999}) {
            long s = seed;
            StringBuilder evenings = new StringBuilder();
            for (int anys = 1; anys <= 12; anys++) {
                evenings.append("any;hour 1;calm;rain;");
                s = (s * 2971 + 10781) % 65536;
                boolean rain = s / 8 % 16 < 9;
                s = (s * 2971 + 10781) % 65536;
                int wind = (int) (s / 8 % 5);
                BandPark x = with("odds 9;", evenings.substring(0, evenings.length() - "hour 1;calm;rain;".length())
                    .replace("any;hour 1;calm;rain;", "any;").concat("hour 1;"));
                Check.told("any " + anys, x, x.live(seed), anys + 1, 0);
                Check.told("rain " + anys, x, x.many(9), rain ? 1 : 0, 0);
                Check.told("wind " + anys, x, x.many(8), wind, 0);
                x.rain(!rain);
                x.wind(wind == 4 ? 0 : 4);
                x.live(seed);
                Check.told("the draws begin anew with each seed", x, x.many(8), wind, 0);
            }
        }
        BandPark x = with("odds 9;", "calm;rain;hour 1;dry;any;");
        x.live(0);
        // 10,781 / 8 is 1,347, by 16: 3; 10,781 * 2,971 and 10,781 is 32,041,132, by 65,536: 59,564, / 8: 7,445, by 5: 0
        Check.told("steps that draw nothing leave s: rain", x, x.many(9), 1, 0);
        Check.told("east", x, x.many(8), 0, 0);
        x = with("odds 3;", "any;");
        x.live(0);
        Check.told("3 is not below 3", x, x.many(9), 0, 0);
    }

    // ---- when

    /** A line of six cells of which band b holds so many. */
    private static BandPark holding(int many, String evenings) {
        return with("park 6 by 1;fade 1;tune a loud " + many + " toll 0;band b at 0 0 strength 0 lips 0 plays a;band c at 1 0 strength 0 lips 0;",
            evenings);
    }

    private static void when(int many, String compares, int number, boolean is) {
        BandPark x = holding(many, "when holds b " + compares + " " + number + ";rain;end;");
        lives(many + compares + number, x, is ? 2 : 1, 0);
        Check.told(many + compares + number, x, x.many(9), is ? 1 : 0, 0);
    }

    private static void whensOfHolds() {
        Edge.promise(56, "when holds: so many CELLS NOW (0 to 30)");
        for (int many = 0; many <= 6; many += 3) {
            for (int number = 0; number <= 7; number++) {
                when(many, "<", number, many < number);
                when(many, ">", number, many > number);
                when(many, "=", number, many == number);
            }
            when(many, "<", 30, true);
            when(many, "=", 30, false);
        }
        BandPark x = with("park 6 by 5;fade 0;tune a loud 3 toll 0;band b at 0 0 strength 0 lips 0 plays a;",
            "when holds b = 30;rain;end;when holds b > 29;wind 1;end;when holds b < 30;wind 2;end;");
        lives("all 30", x, 5, 0);
        Check.same("rain, south", x.many(9) * 10 + x.many(8), 11);
        x = with("park 1 by 1;tune a loud 1 toll 0;band b at 0 0 strength 0 lips 0 plays a hush;",
            "when holds b = 1;wind 0;end;hour 1;when holds b = 0;wind 1;end;hour 1;when holds b = 1;wind 2;end;");
        lives("NOW, as it is then", x, 8, 0);
        Check.told("west", x, x.many(8), 2, 0);
        x = with("park 2 by 1;fade 0;tune a loud 1 toll 0;band b at 0 0 strength 0 lips 0;band c at 1 0 strength 0 lips 0 plays a;",
            "when holds c = 2;wind 3;end;when holds b = 0;rain;end;");
        lives("the band that is named", x, 4, 0);
        Check.same("rain, north", x.many(9) * 10 + x.many(8), 13);
    }

    private static void whensOfTiredAndRain() {
        Edge.promise(56, "tired: NOW.");
        String park = "park 1 by 1;rest 1;tune a loud 1 toll 2;band b at 0 0 strength 1 lips 2 plays a;";
        BandPark x = with(park, "when tired b;wind 0;end;hour 1;when tired b;wind 1;end;hour 2;when tired b;wind 2;end;");
        lives("in hour 1 alone", x, 6, 0);
        Check.told("south", x, x.many(8), 1, 0);
        x = with(park, "when tired b;wind 0;end;");
        x.soothe(0, 1);
        lives("one lip too few", x, 2, 0);
        x.set(0, 0, 6);
        x.wind(4);
        lives("who wants hush is not tired", x, 1, 0);
        Check.told("calm", x, x.many(8), 4, 0);
        Edge.promise(56, "TEST: holds NAME COMPARES NUMBER, or tired NAME, or raining.");
        x = with("park 4 by 1;rest 0;tune a loud 1 toll 1;band b at 0 0 strength 1 lips 0 plays a;band c at 1 0 strength 1 lips 1 plays a;"
            + "band d at 2 0 strength 1 lips 2 plays a;", "when tired d;wind 3;end;when tired c;wind 2;end;when tired b;wind 1;end;");
        lives("b alone", x, 4, 0);
        Check.told("south", x, x.many(8), 1, 0);
        x.hour(1);
        lives("c, too", x, 5, 0);
        x.hour(1);
        lives("all", x, 6, 0);
        x = with(park, "when raining;wind 0;end;rain;when raining;wind 1;end;dry;when raining;wind 2;end;");
        lives("raining", x, 6, 0);
        Check.told("south", x, x.many(8), 1, 0);
        x = with(park, "when raining;stop;hour 1;loop 9;rain;end;end;wind 3;");
        lives("all of a block is passed by", x, 2, 0);
        Check.told("north", x, x.many(8), 3, 0);
        x = with(park, "when raining;end;when raining;when raining;rain;end;end;");
        lives("an empty block; one in another one", x, 2, 0);
    }

    // ---- loop, stop, 300

    private static void loops() {
        Edge.promise(56, "loop n (1 to 99): as often.");
        for (int n : new int[] {1, 2, 98, 99}) {
            BandPark x = with("park 1 by 1;", "loop " + n + ";hour 1;end;");
            lives("loop " + n, x, n + 1, 0);
            Check.told("hours", x, x.many(7), n, 0);
        }
        BandPark x = with("park 1 by 1;", "loop 3;loop 4;hour 5;end;hour 1;end;hour 1;");
        lives("one in another one", x, 1 + 3 * (1 + 4 + 1) + 1, 0);
        Check.told("hours", x, x.many(7), 3 * 21 + 1, 0);
        x = with("park 1 by 1;", "loop 2;loop 2;loop 2;hour 1;end;end;end;");
        lives("three", x, 1 + 2 * (1 + 2 * (1 + 2)), 0);
        Check.told("hours", x, x.many(7), 8, 0);
        Edge.promise(56, "(when, loop count as one each time they are come to from ahead; end does not)");
        lives("as many steps as can be told", with("park 1 by 1;", "calm;".repeat(30)), 30, 30);
        lives("as many, in a block", with("park 1 by 1;", "loop 2;" + "calm;".repeat(29) + "end;"), 59, 58);
        lives("an empty loop", with("park 1 by 1;", "loop 99;end;"), 1, 0);
        lives("a loop in a loop", with("park 1 by 1;", "loop 9;loop 9;end;end;"), 10, 0);
        lives("a when in a loop", with("park 1 by 1;", "loop 9;when raining;rain;end;end;"), 10, 0);
        lives("a when that is so", with("park 1 by 1;", "rain;loop 9;when raining;end;end;"), 11, 0);
    }

    private static void stops() {
        Edge.promise(56, "or stop ;");
        BandPark x = with("park 1 by 1;", "stop;");
        lives("alone", x, 1, 0);
        Check.told("none was left", x, x.lived(4), 0, 0);
        x = with("park 1 by 1;", "hour 1;stop;hour 1;");
        lives("what is behind is not done", x, 2, 0);
        Check.told("hour", x, x.many(7), 1, 0);
        x = with("park 1 by 1;", "loop 9;hour 1;loop 9;hour 1;when raining;stop;end;rain;end;end;hour 1;");
        // 1 + (hour, loop, hour, when, rain, hour, when, stop)
        lives("out of all blocks", x, 9, 0);
        Check.told("hour", x, x.many(7), 3, 0);
        Check.told("lived again", x, x.live(0), 6, 0);
    }

    private static final String MOST = "loop 99;loop 2;calm;end;end;";

    private static void atMost300() {
        Edge.promise(56, "At most 300 STEPS");
        lives("298", with("park 1 by 1;", MOST), 298, 198);
        lives("299", with("park 1 by 1;", MOST + "dry;"), 299, 199);
        lives("300", with("park 1 by 1;", MOST + "dry;dry;"), 300, 200);
        BandPark x = with("park 1 by 1;", MOST + "dry;dry;rain;");
        lives("301", x, 300, 200);
        Check.told("it was not done", x, x.many(9), 0, 0);
        x = with("park 1 by 1;", MOST + "dry;rain;wind 1;");
        lives("301", x, 300, 199);
        Check.told("the 300th was done", x, x.many(9), 1, 0);
        Check.told("the 301st was not", x, x.many(8), 4, 0);
        x = with("park 1 by 1;", "loop 99;loop 99;hour 1;end;end;");
        // the loop, then 3 loops of 99 hours each, but for the last 1 + 297
        lives("in the midst of a loop", x, 300, 0);
        Check.told("hours", x, x.many(7), 300 - 1 - 3, 0);
        lives("each live has its own 300", x, 300, 0);
        Check.told("hours", x, x.many(7), 2 * 296, 0);
        x = with("park 1 by 1;", "loop 99;loop 99;loop 99;end;end;end;");
        lives("loops alone", x, 300, 0);
    }

    private static void left(String evenings, int left) {
        BandPark x = with("park 1 by 1;", evenings);
        x.live(0);
        Check.told(evenings, x, x.lived(4), left, 0);
    }

    private static void stepsLeft() {
        Edge.promise(57, "4: 1 if a STEP was left to be done, else 0");
        left(MOST, 0);
        left(MOST + "dry;dry;", 0);
        left(MOST + "dry;dry;dry;", 1);
        left(MOST + "dry;dry;stop;", 1);
        left(MOST + "dry;stop;dry;", 0);
        left(MOST + "dry;dry;loop 1;end;", 1);
        left(MOST + "dry;loop 99;end;", 0);
        left(MOST + "dry;loop 1;dry;end;", 1);
        left(MOST + "dry;when raining;dry;end;", 0);
        left(MOST + "dry;when raining;dry;end;dry;", 1);
        left("rain;loop 99;loop 2;calm;end;end;when raining;dry;end;", 1);
        left("rain;loop 99;loop 2;calm;end;end;when raining;end;", 0);
        left("loop 99;loop 2;calm;end;end;loop 2;dry;end;", 1);
        left("loop 99;loop 2;calm;end;end;loop 1;dry;end;", 0);
        left("loop 99;calm;calm;calm;calm;end;", 1);
        left("", 0);
        BandPark x = with("park 1 by 1;", MOST + "dry;dry;dry;");
        x.live(0);
        Check.told("left", x, x.lived(4), 1, 0);
        Check.evenings(x, "dry;");
        x.live(0);
        Check.told("of the latest alone: none is left", x, x.lived(4), 0, 0);
    }

    private static void allIsAsItIsThen() {
        Edge.promise(56, "all is as it is then.");
        BandPark x = with(Edge.PARK, "hour 1;wind 2;rain;set north 1 polka;");
        x.live(0);
        Check.same("hour, wind, rain", x.many(7) * 100 + x.many(8) * 10 + x.many(9), 121);
        Check.told("the programme", x, x.entry(0, 1), 2, 0);
        Check.told("lips", x, x.band(0, 3), 7, 0);
        Check.told("points", x, x.band(0, 5), 8, 0);
        BandPark y = Check.made(Edge.PARK);
        y.hour(1);
        Check.told("points as by hour()", x, x.band(1, 5), y.band(1, 5), 0);
        Check.told("the evenings are there still: a wind and rain that are so", x, x.live(0), 4, 0);
        Check.told("missed", x, x.lived(0), 2, 0);
        Check.told("hour", x, x.many(7), 2, 0);
    }

    // ---- lived

    private static void livedRefused() {
        Edge.promise(57, "(5; 8: there was none).");
        for (int no : Edge.NO_NUMBERS) {
            Edge.no("what", 5, x -> x.lived(no));
        }
        Edge.no("5", 5, x -> x.lived(5));
        for (int what = 0; what < 5; what++) {
            int asked = what;
            Edge.asks("lived", x -> x.lived(asked));
        }
        BandPark x = with(Edge.PARK, "hour 3;");
        Check.no("there was none", x, x.lived(0), 8);
        Check.no("there was none", x, x.lived(4), 8);
        Check.no("5 ahead of 8", x, x.lived(5), 5);
        Check.no("5 ahead of 8", x, x.lived(-1), 5);
        x.live(-1);
        Check.no("none with STATUS 0", x, x.lived(1), 8);
        x.mean(0, 0, 1);
        Check.no("mean is none", x, x.lived(1), 8);
        x.hour(1);
        Check.no("hour is none", x, x.lived(1), 8);
    }

    private static void lived() {
        Edge.promise(57, "Of live() latest with STATUS 0, what 0: MISSED, 1: HOURS, 2: POINTS that all BANDS got");
        BandPark x = with("park 3 by 1;fade 2;pond 1 0;tune a loud 4 toll 0;band l at 0 0 strength 3 lips 0 plays a;band r at 2 0 strength 2 lips 0 plays a;",
            "hour 2;calm;hour 1;dry;rain;");
        x.hour(4);
        Check.told("done", x, x.live(0), 5, 0);
        int[] want = {2, 3, 15, 0, 0};
        for (int what = 0; what < 5; what++) {
            Check.told("lived " + what, x, x.lived(what), want[what], 0);
        }
        x.live(10000);
        x.mean(0, 0, 1);
        x.hour(1);
        Check.told("of the latest with STATUS 0", x, x.lived(1), 3, 0);
        Check.evenings(x, "hour 1;");
        Check.told("other evenings leave it", x, x.lived(1), 3, 0);
        x.live(0);
        // rain takes 2 of each: 5 3 1 and 0 2 4
        int[] then = {0, 1, 5, 0, 0};
        for (int what = 0; what < 5; what++) {
            Check.told("of the latest alone: " + what, x, x.lived(what), then[what], 0);
        }
        Check.park(x, "park 1 by 1;");
        Check.told("another park leaves it", x, x.lived(1), 1, 0);
        Check.no("no evenings", x, x.live(0), 8);
        Check.told("8 leaves it", x, x.lived(1), 1, 0);
    }

    private static void livedTired() {
        Edge.promise(57, "3: how often a BAND was TIRED in an HOUR that went by");
        String park = "park 3 by 1;rest 0;tune a loud 1 toll 1;band l at 0 0 strength 1 lips 0 plays a;band m at 1 0 strength 1 lips 2 plays a;"
            + "band r at 2 0 strength 1 lips 9 plays hush a;";
        BandPark x = with(park, "hour 3;");
        x.live(0);
        Check.told("l three times, m once", x, x.lived(3), 4, 0);
        x.live(0);
        Check.told("l and m three times each", x, x.lived(3), 6, 0);
        Check.evenings(x, "when tired l;wind 1;end;");
        x.live(0);
        Check.told("no hour went by", x, x.lived(3), 0, 0);
        x = with(park, "hour 1;hour 1;hour 1;hour 1;");
        x.hour(5);
        x.live(0);
        Check.told("hours before do not count", x, x.lived(3), 8, 0);
        x = with(park, "loop 99;hour 20;end;loop 99;hour 20;end;");
        x.live(0);
        x.live(0);
        Check.told("198 times 20 hours", x, x.lived(1), 3960, 0);
        Check.told("three in each second hour, two in each other one", x, x.lived(3), 3960 * 2 + 3960 / 2, 0);
        for (int i = 0; i < 21; i++) {
            x.hour(99);
        }
        Check.told("hours that are missed do not count", x, x.live(0), 200, 0);
        Check.told("missed", x, x.lived(0), 198, 0);
        Check.told("tired", x, x.lived(3), 0, 0);
    }

    // ---- mean

    private static void meanRefused() {
        Edge.promise(58, "(2; 5: the last above 9,999, too; 8).");
        for (int no : Edge.NO_NUMBERS) {
            Edge.not("band", 2, x -> x.mean(no, 0, 1));
            Edge.not("seed", 5, x -> x.mean(0, no, 1));
            Edge.not("many", 5, x -> x.mean(0, 0, no));
            Edge.not("2 ahead of 5", 2, x -> x.mean(no, no, no));
            Edge.not("seed and many", 5, x -> x.mean(0, no, no));
        }
        Edge.not("one behind the last", 2, x -> x.mean(3, 0, 1));
        Edge.not("0", 5, x -> x.mean(0, 0, 0));
        Edge.not("21", 5, x -> x.mean(0, 0, 21));
        Edge.not("10,000", 5, x -> x.mean(0, 10000, 1));
        Edge.not("9,999 and 10,000", 5, x -> x.mean(0, 9999, 2));
        Edge.not("9,981 to 10,000", 5, x -> x.mean(0, 9981, 20));
        BandPark x = Check.made(Edge.PARK);
        Check.flag("no evenings", x, x.mean(0, 0, 1), 8);
        Check.flag("2 ahead of 8", x, x.mean(3, 0, 1), 2);
        Check.flag("5 ahead of 8", x, x.mean(0, 0, 0), 5);
        Check.flag("5 ahead of 8", x, x.mean(0, 9999, 2), 5);
        Check.evenings(x, "hour 1;any;");
        Check.flag("9,999 alone", x, x.mean(0, 9999, 1), 0);
        Check.flag("9,980 to 9,999", x, x.mean(0, 9980, 20), 0);
        Check.flag("0 to 19", x, x.mean(0, 0, 20), 0);
    }

    private static void mean() {
        Edge.promise(58, "The FRACTION is the mean of POINTS of a BAND behind the EVENINGS, by so many seeds (1 to 20) from one on");
        for (int many : new int[] {1, 2, 3, 20}) {
            for (int band = 0; band < 3; band++) {
                long sum = 0;
                for (int seed = 77; seed < 77 + many; seed++) {
                    BandPark y = drawn();
                    y.live(seed);
                    sum += y.band(band, 5);
                }
                BandPark x = drawn();
                Check.flag("mean", x, x.mean(band, 77, many), 0);
                Check.same("mean of " + many, x.top() * many, sum * x.bottom());
                long common = java.math.BigInteger.valueOf(sum).gcd(java.math.BigInteger.valueOf(many)).longValue();
                Check.same("without a common divisor", x.bottom(), many / common);
            }
        }
        BandPark x = with("park 1 by 1;tune a loud 1 toll 0;band b at 0 0 strength 1 lips 0 plays a hush;", "hour 2;");
        x.hour(3);
        Check.flag("points it had before count", x, x.mean(0, 0, 20), 0);
        Check.same("2 and 1, by 1", x.top() * 10 + x.bottom(), 31);
        x = with("park 1 by 1;tune a loud 1 toll 0;band b at 0 0 strength 1 lips 0;", "hour 2;");
        Check.flag("none", x, x.mean(0, 5, 7), 0);
        Check.same("0 by 1", x.top() * 10 + x.bottom(), 1);
        Check.evenings(x, "");
        Check.flag("evenings of no steps", x, x.mean(0, 5, 7), 0);
        x = with("park 1 by 1;tune a loud 1 toll 0;band b at 0 0 strength 1 lips 0 plays a;", "loop 2;loop 3;loop 4;hour 1;end;end;end;");
        Check.flag("blocks in blocks in blocks", x, x.mean(0, 5, 7), 0);
        Check.same("24 by 1", x.top() * 10 + x.bottom(), 241);
        x = late(9998, "hour 2;");
        int points = x.band(0, 5);
        Check.flag("hours beyond 9,999 are missed", x, x.mean(0, 0, 2), 0);
        Check.same("as many as now", x.top(), points);
    }

    private static BandPark drawn() {
        BandPark x = with(Edge.PARK, "loop 5;any;hour 2;end;set north 1 polka;any;hour 3;");
        x.hour(2);
        return x;
    }

    private static void meanLeavesAll() {
        Edge.promise(58, "(all stays as it is)");
        Edge.asks("mean, and the fraction told before", x -> {
            boolean done = x.mean(0, 3, 20);
            x.wet(3, 1);
            return done ? 1 : 0;
        });
        BandPark x = Edge.bare();
        int[] before = {x.lived(0), x.lived(1), x.lived(2), x.lived(3), x.lived(4)};
        Check.flag("mean", x, x.mean(1, 0, 20), 0);
        for (int what = 0; what < 5; what++) {
            Check.told("lived() tells of live() alone", x, x.lived(what), before[what], 0);
        }
    }
}
