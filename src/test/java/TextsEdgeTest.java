import java.util.function.ToLongFunction;

/** Edges of promises 9 and 10: the tape, the text of a PARK and its FAULTS. */
public final class TextsEdgeTest {
    static final String[] KEYWORDS = {"park", "by", "fade", "rest", "odds", "pond", "tune", "loud", "toll", "beats", "band",
        "at", "strength", "lips", "plays", "hush", "hour", "wind", "calm", "rain", "dry", "set", "any", "when", "holds", "tired",
        "raining", "loop", "end", "stop"};

    /** A park with one tune a, one band b at 1 0, and a cell 0 0 that is free. */
    private static final String TWO = "park 2 by 2;tune a loud 1 toll 1;band b at 1 0 strength 1 lips 1;";

    public static void main(String[] args) throws Exception {
        Edge.begin(args);
        feeds();
        parkSizes();
        parkCuts();
        parkEmptiesTheTape();
        parkTakesThePlace();
        nothingIsLeftOfTexts();
        tokens();
        tokenFaults();
        numbers();
        defaults();
        names();
        namesTaken();
        ponds();
        manyThings();
        wordsOutOfPlace();
        partsLeftOut();
        toldAlready();
        stands();
        leastKind();
        Edge.end(9, 10);
    }

    // ---- the tape

    private static void feeds() {
        Edge.promise(9, "how many it has; NONE if there would be more than 900.");
        BandPark x = new BandPark();
        for (int i = 1; i <= 44; i++) {
            Check.same("fed", x.feed(0x20202020, 0x20202020, 0x20202020, 0x20202020, 0x20202020), 20 * i);
        }
        // "park 3 by 2;odds 11;"
        Check.same("900", x.feed(0x7061726b, 0x20332062, 0x7920323b, 0x6f646473, 0x2031313b), 900);
        Check.same("more", x.feed(0, 0, 0, 0, 0), -1);
        Check.same("more", x.feed(-1, -1, -1, -1, -1), -1);
        Check.told("900 stay as they were", x, x.park(900), 0, 0);
        Check.told("the last of them, too", x, x.many(6), 11, 0);
        Check.told("wide", x, x.many(0), 3, 0);
        Check.same("room again", x.feed(0, 0, 0, 0, 0), 20);
        Edge.promise(9, "Twenty bytes come behind those on the tape, the highest of each int first");
        x = new BandPark();
        Check.same("20", x.feed(0x70617200 | 'k', 0x20352062, 0x79000000 | 0x20343b, 0x66616465, 0x20333b6f), 20);
        Check.same("40", x.feed(0x64647320, 0x393b7265, 0x73742038, 0x3b202020, 0x20202020), 40);
        Check.told("taken", x, x.park(40), 0, 0);
        Check.same("park 5 by 4;fade 3;odds 9;rest 8;", x.many(0) * 10000 + x.many(1) * 1000 + x.many(4) * 100 + x.many(6) * 10 + x.many(5),
            54398);
        x = new BandPark();
        Check.same("bytes above 127", x.feed(0xe9202020, 0, 0, 0, 0), 20);
        Check.no("bytes above 127", x, x.park(1), 10);
        Check.same("at 0", x.fault(0) * 10 + x.fault(1), 10);
        x.feed(0x202020ff, 0, 0, 0, 0);
        Check.no("the lowest of an int", x, x.park(4), 10);
        Check.same("at 3", x.fault(0) * 10 + x.fault(1), 13);
    }

    private static void parkSizes() {
        Edge.promise(10, "how many BANDS (5; 10: the old one stays).");
        for (int no : Edge.NO_NUMBERS) {
            Edge.no("so many bytes", 5, x -> x.park(no));
        }
        Edge.no("one more than there are", 5, x -> x.park(41));
        Edge.no("901", 5, x -> x.park(901));
        BandPark x = Edge.bare();
        Check.no("one of an empty tape", x, x.park(1), 5);
        Check.told("none of an empty tape", x, x.park(0), 0, 0);
        Check.told("a park of no cells", x, x.many(0), 0, 0);
        Check.told("without bands", x, x.many(3), 0, 0);
        x = Edge.busy();
        Check.told("none of the tape", x, x.park(0), 0, 0);
        Check.told("a park of no cells", x, x.many(1), 0, 0);
        Check.same("the tape is empty then", x.feed(0, 0, 0, 0, 0), 20);
        x = Check.made(TWO);
        Check.told("so many bands", x, Check.park(x, TWO + "band c at 0 1 strength 0 lips 0;"), 2, 0);
        Edge.promise(10, "A PARK is a TEXT of at most 900 bytes.");
        StringBuilder text = new StringBuilder("park 6 by 5;fade 7;");
        while (text.length() < 892) {
            text.append(text.length() % 2 == 0 ? ' ' : '\n');
        }
        text.append("pond 5 4");
        Check.no("900 without the last ;", x, Check.park(x, text.toString()), 10);
        Check.same("at the end", x.fault(0) * 1000 + x.fault(1), 2900);
        text.deleteCharAt(50).append(";");
        Check.told("900", x, Check.park(x, text.toString()), 0, 0);
        Check.told("its last part", x, x.pond(5, 4), 1, 0);
    }

    private static void parkCuts() {
        Edge.promise(10, "The first n bytes of the tape");
        String text = "park 2 by 2;fade 12345!?";
        for (int n = 0; n <= text.length(); n++) {
            BandPark x = new BandPark();
            Check.feed(x, text);
            boolean good = n == 0 || n == 12;
            Check.told("the first " + n, x, x.park(n), good ? 0 : -1, good ? 0 : 10);
            // behind "fade 1234" the five digits are no token at all, at their first
            int kind = good ? 0 : n > 21 ? 1 : n > 17 ? 4 : 2;
            int place = good ? -1 : n > 17 ? 17 : n;
            if (n > 0 && n < 4) {
                place = 0;
            } else if (n > 12 && n < 16) {
                place = 12;
            } else if (n == 18) {
                kind = 2;
                place = 18;
            } else if (n == 9) {
                // "by" is whole at 9; at 8 it is "b"
                place = 9;
            } else if (n == 8) {
                place = 7;
            }
            Check.same("fault of the first " + n, x.fault(0), kind);
            Check.same("place of the first " + n, x.fault(1), place);
        }
    }

    private static void parkEmptiesTheTape() {
        Edge.promise(10, "(which is empty then, but for 5)");
        BandPark x = Edge.busy();
        Check.no("5", x, x.park(41), 5);
        Check.same("40 and 20", x.feed(0x20202020, 0x20202020, 0x20202020, 0x20202020, 0x20202020), 60);
        Check.told("what is left is not used again", x, x.park(12), 0, 0);
        Check.same("empty with 0", x.feed(0x20202020, 0x20202020, 0x20202020, 0x20202020, 0x20202020), 20);
        Check.no("20 blanks alone are there", x, x.park(21), 5);
        x = Edge.busy();
        Check.no("10", x, x.park(20), 10);
        Check.same("empty with 10", x.feed(0, 0, 0, 0, 0), 20);
    }

    private static void parkTakesThePlace() {
        Edge.promise(10, "A PARK that is taken is there in place of that ahead; it is HOUR 0, CALM, dry; nobody has POINTS; there are no EVENINGS.");
        BandPark x = Edge.bare();
        x.wind(x.many(8) == 3 ? 2 : 3);
        x.rain(true);
        x.rule(4, 9);
        x.rule(5, 9);
        x.rule(6, 16);
        Check.told("taken", x, Check.park(x, "park 2 by 1;tune p loud 9 toll 1;band q at 0 0 strength 9 lips 9 plays p;"), 1, 0);
        int[] want = {2, 1, 1, 1, 2, 2, 4, 0, 4, 0, 0, 0, 0, 1, 0};
        for (int i = 0; i < want.length; i++) {
            Check.told("many " + i, x, x.many(i), want[i], 0);
        }
        Check.told("no points", x, x.band(0, 5), 0, 0);
        Check.told("all lips", x, x.band(0, 3), 9, 0);
        Check.told("one entry", x, x.band(0, 6), 1, 0);
        Check.no("no evenings", x, x.live(0), 8);
        Check.flag("no evenings", x, x.mean(0, 0, 1), 8);
        Check.no("the old names are gone", x, Check.evenings(x, "when tired north;end;"), 10);
        Check.same("the old names are gone", x.fault(0), 3);
        Check.told("lived() tells of the latest still", x, x.lived(1), 3, 0);
        Check.told("the marks stay", x, x.back(), 0, 0);
        Check.told("the marks stay", x, x.many(0), 4, 0);
        x = Edge.bare();
        x.hour(1);
        Check.told("the same text again", x, Check.park(x, Edge.PARK), 3, 0);
        Check.told("hour", x, x.many(7), 0, 0);
        Check.told("points", x, x.band(0, 5), 0, 0);
        Check.told("lips", x, x.band(0, 3), 10, 0);
        Check.told("the programme", x, x.entry(0, 0), 0, 0);
        Check.no("no evenings", x, x.live(0), 8);
    }

    private static void nothingIsLeftOfTexts() {
        Edge.promise(10, "A PARK that is taken is there in place of that ahead");
        String full = "park 4 by 3;fade 9;rest 8;odds 7;pond 0 0;pond 3 2;tune march loud 9 toll 9 beats 9;tune p loud 1 toll 1;"
            + "band north at 0 0 strength 9 lips 9 plays march p march;band q at 3 2 strength 1 lips 1 plays p;";
        for (String text : new String[] {full, full + "!"}) {
            BandPark x = new BandPark();
            Check.park(x, text);
            Check.told("behind it", x, Check.park(x, "park 4 by 3;tune march loud 1 toll 0;band north at 3 2 strength 2 lips 3;"), 1, 0);
            int[] want = {4, 3, 1, 1, 2, 2, 4, 0, 4, 0, 0, 0, 12, 0, 0};
            for (int i = 0; i < want.length; i++) {
                Check.told("many " + i, x, x.many(i), want[i], 0);
            }
            Check.told("no pond", x, x.pond(0, 0), 0, 0);
            Check.told("no pond", x, x.pond(3, 2), 0, 0);
            Check.told("beats", x, x.tune(0, 2), 4, 0);
            int[] band = {3, 2, 2, 3, 3, 0, 0};
            for (int i = 0; i < band.length; i++) {
                Check.told("band " + i, x, x.band(0, i), band[i], 0);
            }
            Check.told("an empty one", x, Check.park(x, ""), 0, 0);
            Check.told("no cells", x, x.many(0), 0, 0);
            Check.told("no ponds", x, x.many(10), 0, 0);
        }
        Edge.parkFault(full + "fade 1;", 5, full.length());
    }

    // ---- TOKENS

    private static void tokens() {
        Edge.promise(10, "TOKENS, as long as they go, between them blanks (10, 32)");
        BandPark x = Check.made("park6by5;fade3;rest4;odds16;pond5 4;tune a loud20toll9beats99;band b at5 4strength20lips99plays a hush;");
        Check.same("without blanks", x.many(0) * 10 + x.many(1), 65);
        Check.same("without blanks", x.entry(0, 1), 6);
        x = Check.made(" \n park\n2\n\nby  2 \n;\n");
        Check.same("with many blanks", x.many(0) * 10 + x.many(1), 22);
        x = Check.made("park 1 by 1;\n");
        Check.same("a blank behind", x.many(0), 1);
        x = Check.made("\n\n  ");
        Check.same("blanks alone", x.many(0), 0);
        Edge.parkFault("parkk 1 by 1;", 2, 0);
        Edge.parkFault("par k 1 by 1;", 2, 0);
        Edge.parkFault("park 1 b y 1;", 2, 7);
        Edge.parkFault("park 1 1 by 1;", 2, 7);
        Edge.parkFault("park 11 by 1;", 4, 5);
        Edge.parkFault("tunea loud 1 toll 1;", 2, 0);
        Edge.parkFault("tune aloud 1 toll 1;", 2, 11);
        x = Check.made("tune a loud 1 toll 1;park 1 by 1;band b at 0 0 strength 1 lips 1 plays a\na\na;");
        Check.same("a blank parts names", x.band(0, 6), 3);
        Edge.promise(10, "NUMBERS (1 to 4 digits)");
        x = Check.made("fade 0009;");
        Check.same("four digits", x.many(4), 9);
        x = Check.made("odds 016;");
        Check.same("three digits", x.many(6), 16);
        x = Check.made("fade 0000;");
        Check.same("four digits, 0", x.many(4), 0);
        Edge.parkFault("fade 9999;", 4, 5);
        Edge.parkFault("fade 1000;", 4, 5);
    }

    private static void tokenFaults() {
        Edge.promise(10, "1 no TOKEN begins so (a NUMBER of 5 digits and more: at its first).");
        Edge.parkFault("fade 00009;", 1, 5);
        Edge.parkFault("fade 99999", 1, 5);
        Edge.parkFault("fade 123456789012;", 1, 5);
        Edge.parkFault("12345", 1, 0);
        Edge.parkFault("park 00001", 1, 5);
        Edge.parkFault("tune 00001 loud", 1, 5);
        Edge.parkFault("fade 1 00001", 1, 7);
        Edge.parkFault(TWO + "band c at 0 0 strength 1 lips 1 plays 00001;", 1, TWO.length() + 38);
        for (int c = 0; c < 256; c++) {
            boolean blank = c == 10 || c == 32;
            boolean begins = c >= 'a' && c <= 'z' || c >= '0' && c <= '9' || c == ';' || c == '<' || c == '>' || c == '=';
            BandPark x = new BandPark();
            int got = Check.park(x, " " + (char) c);
            Check.told("byte " + c, x, got, blank ? 0 : -1, blank ? 0 : 10);
            Check.same("kind of byte " + c, x.fault(0), blank ? 0 : begins ? 2 : 1);
            Check.same("place of byte " + c, x.fault(1), blank ? -1 : 1);
        }
        for (int c = 0; c < 256; c++) {
            boolean letter = c >= 'a' && c <= 'z';
            boolean digit = c >= '0' && c <= '9';
            boolean sign = c == ';' || c == '<' || c == '>' || c == '=';
            boolean blank = c == 10 || c == 32;
            if (blank) {
                Check.same("a word, byte " + c, Check.made("fade" + (char) c + "1;").many(4), 1);
                Edge.parkFault("fade 1" + (char) c, 2, 7);
            } else if (c == ';') {
                Edge.parkFault("fade;", 2, 4);
                Check.same("a number, byte " + c, Check.made("fade 1;").many(4), 1);
            } else {
                Edge.parkFault("fade" + (char) c + " 1;", letter || digit || sign ? 2 : 1, letter ? 0 : digit ? 6 : 4);
                Edge.parkFault("fade 1" + (char) c, digit ? 4 : letter || sign ? 2 : 1, digit ? 5 : 6);
            }
        }
        Edge.parkFault("fade\t1;", 1, 4);
        Edge.parkFault("fade\r\n1;", 1, 4);
        Edge.parkFault("fade 1,", 1, 6);
        Edge.parkFault("fade -1;", 1, 5);
        Edge.parkFault("fade 1.5;", 1, 6);
        Edge.parkFault("faDe 1;", 2, 0);
        Edge.parkFault("park 1 by 1;Fade 1;", 1, 12);
    }

    // ---- NUMBERS

    private static void range(String ahead, int least, int most, String behind, ToLongFunction<BandPark> got) {
        for (int v = least; v <= most; v += v == least && most - least > 3 ? most - least : 1) {
            BandPark x = Check.made(ahead + v + behind);
            Check.same(ahead + v, got.applyAsLong(x), v);
        }
        Edge.parkFault(ahead + (most + 1) + behind, 4, ahead.length());
        Edge.parkFault(ahead + 9999 + behind, 4, ahead.length());
        if (least > 0) {
            Edge.parkFault(ahead + (least - 1) + behind, 4, ahead.length());
        }
        Edge.parkFault(ahead + "00000" + behind, 1, ahead.length());
        Edge.parkFault(ahead + "a" + behind, 2, ahead.length());
        Edge.parkFault(ahead, 2, ahead.length());
    }

    private static void numbers() {
        Edge.promise(10, "4 a NUMBER that can't be.");
        Edge.promise(10, "PARK: WIDE (1 to 6) by DEEP (1 to 5)");
        range("park ", 1, 6, " by 2;", x -> x.many(0));
        range("park 2 by ", 1, 5, ";", x -> x.many(1));
        Edge.promise(10, "FADE (0 to 9; 2 without).");
        range("fade ", 0, 9, ";", x -> x.many(4));
        Edge.promise(10, "REST (0 to 9; 2 without).");
        range("rest ", 0, 9, ";", x -> x.many(5));
        Edge.promise(10, "ODDS (0 to 16; 4 without).");
        range("odds ", 0, 16, ";", x -> x.many(6));
        Edge.promise(10, "LOUD (0 to 20), TOLL (0 to 9), BEATS (1 to 99; 4 without).");
        range("tune a loud ", 0, 20, " toll 1;", x -> x.tune(0, 0));
        range("tune a loud 1 toll ", 0, 9, ";", x -> x.tune(0, 1));
        range("tune a loud 1 toll 1 beats ", 1, 99, ";", x -> x.tune(0, 2));
        Edge.promise(10, "POND: a CELL (column 0 to WIDE less 1, row 0 to DEEP less 1) that is POND");
        range("park 4 by 3;pond ", 0, 3, " 0;", x -> x.pond(3, 0) == 1 ? 3 : x.pond(2, 0) == 1 ? 2 : x.pond(1, 0) == 1 ? 1 : 0);
        range("park 4 by 3;pond 3 ", 0, 2, ";", x -> x.pond(3, 2) == 1 ? 2 : x.pond(3, 1) == 1 ? 1 : x.pond(3, 0) == 1 ? 0 : 9);
        Edge.promise(10, "STRENGTH (0 to 20), LIPS (0 to 99), the most that it ever has.");
        range("park 4 by 3;band b at ", 0, 3, " 0 strength 1 lips 1;", x -> x.band(0, 0));
        range("park 4 by 3;band b at 0 ", 0, 2, " strength 1 lips 1;", x -> x.band(0, 1));
        range("park 4 by 3;band b at 0 0 strength ", 0, 20, " lips 1;", x -> x.band(0, 2));
        range("park 4 by 3;band b at 0 0 strength 1 lips ", 0, 99, ";", x -> x.band(0, 3));
        range("park 4 by 3;band b at 0 0 strength 1 lips ", 0, 99, ";", x -> x.band(0, 4));
    }

    private static void defaults() {
        Edge.promise(10, "FADE (0 to 9; 2 without). REST (0 to 9; 2 without). ODDS (0 to 16; 4 without).");
        BandPark x = Check.made("fade 9;rest 8;odds 7;tune a loud 1 toll 1 beats 9;");
        Check.same("told", x.many(4) * 100 + x.many(5) * 10 + x.many(6), 987);
        Check.park(x, "park 1 by 1;tune a loud 1 toll 1;band b at 0 0 strength 1 lips 1;");
        Check.same("without", x.many(4) * 100 + x.many(5) * 10 + x.many(6), 224);
        Edge.promise(10, "BEATS (1 to 99; 4 without).");
        Check.same("without", x.tune(0, 2), 4);
        x = Check.made("tune a loud 1 toll 1 beats 9;tune b loud 1 toll 1;tune c loud 1 toll 1 beats 1;");
        Check.same("one without", x.tune(0, 2) * 100 + x.tune(1, 2) * 10 + x.tune(2, 2), 941);
        Edge.promise(10, "its PROGRAMME (none without plays).");
        x = Check.made("park 2 by 1;band a at 0 0 strength 1 lips 1 plays hush hush;band b at 1 0 strength 1 lips 1;");
        Check.same("two, none", x.band(0, 6) * 10 + x.band(1, 6), 20);
        Check.park(x, "park 2 by 1;band a at 0 0 strength 1 lips 1;band b at 1 0 strength 1 lips 1 plays hush;");
        Check.same("none, one", x.band(0, 6) * 10 + x.band(1, 6), 1);
    }

    // ---- NAMES

    private static void names() {
        Edge.promise(10, "NAME: a WORD of 1 to 8 letters that is none of");
        for (String word : KEYWORDS) {
            Edge.parkFault("tune " + word + " loud 1 toll 1;", 2, 5);
            Edge.parkFault("park 1 by 1;band " + word + " at 0 0 strength 1 lips 1;", 2, 17);
            if (!word.equals("hush")) {
                Edge.parkFault(TWO + "band c at 0 0 strength 1 lips 1 plays " + word + ";", 2, TWO.length() + 38);
            }
            String longer = word + "x";
            if (longer.length() <= 8) {
                Check.made("tune " + longer + " loud 1 toll 1;");
            }
            Check.made("tune " + word.substring(1) + "z loud 1 toll 1;");
        }
        Check.made("tune a loud 1 toll 1;tune zzzzzzzz loud 1 toll 1;");
        for (String word : new String[] {"by", "toll", "beats", "b", "lipss"}) {
            Edge.parkFault("tune a " + word + " 1;", 2, 7);
        }
        Edge.promise(10, "a WORD of 9 letters and more where a NAME must stand");
        Edge.parkFault("tune abcdefghi loud 1 toll 1;", 2, 5);
        Edge.parkFault("tune abcdefghijklmnopqrstuvwxyz loud 1 toll 1;", 2, 5);
        Edge.parkFault("park 1 by 1;band abcdefghi at 0 0 strength 1 lips 1;", 2, 17);
        Edge.parkFault(TWO + "band c at 0 0 strength 1 lips 1 plays aaaaaaaaa;", 2, TWO.length() + 38);
        String eight = "park 1 by 1;tune abcdefgh loud 1 toll 1;band b at 0 0 strength 1 lips 1 plays ";
        Check.made(eight + "abcdefgh;");
        Edge.parkFault(eight + "abcdefghi;", 2, eight.length());
        Edge.parkFault(eight + "abcdefg;", 3, eight.length());
        Edge.parkFault("strengths 1;", 2, 0);
        Edge.parkFault("park 1 by 1;band b at 0 0 strengths 1 lips 1;", 2, 26);
        Edge.parkFault("park 1 by 1;band b at 0 0 strengthstrength 1 lips 1;", 2, 26);
        Edge.parkFault("tune 1 loud 1 toll 1;", 2, 5);
        Edge.parkFault("tune = loud 1 toll 1;", 2, 5);
    }

    private static void namesTaken() {
        Edge.promise(10, "One NAME is of one thing alone.");
        int n = TWO.length();
        Edge.parkFault(TWO + "tune a loud 1 toll 1;", 3, n + 5);
        Edge.parkFault(TWO + "tune b loud 1 toll 1;", 3, n + 5);
        Edge.parkFault(TWO + "band a at 0 0 strength 1 lips 1;", 3, n + 5);
        Edge.parkFault(TWO + "band b at 0 0 strength 1 lips 1;", 3, n + 5);
        Check.made(TWO + "tune c loud 1 toll 1;band d at 0 0 strength 1 lips 1;");
        Check.made("tune aa loud 1 toll 1;tune a loud 1 toll 1;tune aaa loud 1 toll 1;tune aaaaaaaa loud 1 toll 1;");
        Edge.promise(10, "3 a new NAME that is taken; a NAME that is no TUNE told ahead.");
        Edge.parkFault(TWO + "band c at 0 0 strength 1 lips 1 plays d;", 3, n + 38);
        Edge.parkFault(TWO + "band c at 0 0 strength 1 lips 1 plays b;", 3, n + 38);
        Edge.parkFault(TWO + "band c at 0 0 strength 1 lips 1 plays c;", 3, n + 38);
        Edge.parkFault(TWO + "band c at 0 0 strength 1 lips 1 plays a hush d;", 3, n + 45);
        Edge.promise(10, "what a PART names must be told ahead.");
        Edge.parkFault(TWO + "band c at 0 0 strength 1 lips 1 plays d;tune d loud 1 toll 1;", 3, n + 38);
        Edge.promise(10, "All are numbered as they stand");
        BandPark x = Check.made("park 3 by 1;tune z loud 3 toll 1;band y at 2 0 strength 5 lips 1 plays z;tune a loud 4 toll 1;"
            + "band b at 1 0 strength 6 lips 1 plays a z;");
        Check.same("tunes", x.tune(0, 0) * 10 + x.tune(1, 0), 34);
        Check.same("bands", x.band(0, 2) * 10 + x.band(1, 2), 56);
        Check.same("entries", x.entry(0, 0) * 100 + x.entry(1, 0) * 10 + x.entry(1, 1), 10);
    }

    private static void ponds() {
        Edge.promise(10, "that is POND (told again: nothing more)");
        BandPark x = Check.made("park 6 by 5;pond 5 4;pond 0 0;pond 5 4;pond 5 4;");
        Check.told("two", x, x.many(10), 2, 0);
        Check.told("still pond", x, x.pond(5, 4), 1, 0);
        x = Check.made("park 1 by 1;pond 0 0;band a at 0 0 strength 1 lips 1;");
        Check.told("a band on a pond", x, x.pond(0, 0), 1, 0);
        x = Check.made("park 6 by 5;pond 1 2;");
        Check.told("not its mirror", x, x.pond(2, 1), 0, 0);
        Check.told("column, row", x, x.pond(1, 2), 1, 0);
        StringBuilder all = new StringBuilder("park 6 by 5;");
        for (int cell = 0; cell < 30; cell++) {
            all.append("pond ").append(cell % 6).append(' ').append(cell / 6).append(';');
        }
        x = Check.made(all.toString());
        Check.told("all", x, x.many(10), 30, 0);
        Check.park(x, "park 6 by 5;");
        Check.told("a text behind it has none", x, x.many(10), 0, 0);
    }

    // ---- how many

    private static String tunes(int many) {
        StringBuilder s = new StringBuilder();
        for (int i = 0; i < many; i++) {
            s.append("tune t").append((char) ('a' + i)).append(" loud ").append(i).append(" toll 1;");
        }
        return s.toString();
    }

    private static String bands(int many) {
        StringBuilder s = new StringBuilder("park 6 by 5;");
        for (int i = 0; i < many; i++) {
            s.append("band b").append((char) ('a' + i)).append(" at ").append(i).append(" 4 strength ").append(i).append(" lips 1;");
        }
        return s.toString();
    }

    private static void manyThings() {
        Edge.promise(10, "6 a seventh tune, a seventh band (at that WORD), a seventh ENTRY (at it).");
        BandPark x = Check.made(tunes(6) + bands(6));
        Check.told("six tunes", x, x.many(2), 6, 0);
        Check.told("six bands", x, x.many(3), 6, 0);
        Check.told("the last tune", x, x.tune(5, 0), 5, 0);
        Check.told("the last band", x, x.band(5, 2), 5, 0);
        Edge.parkFault(tunes(5) + bands(6) + "tune bf loud 1 toll 1;", 3, tunes(5).length() + bands(6).length() + 5);
        Edge.parkFault(tunes(6) + bands(5) + "band tf at 0 0 strength 1 lips 1;", 3, tunes(6).length() + bands(5).length() + 5);
        Check.told("the last band's name", x, Check.evenings(x, "set bf 0 tf;when tired bf;end;when holds bf < 1;end;"), 3, 0);
        String six = tunes(6);
        Edge.parkFault(six + "tune tg loud 1 toll 1;", 6, six.length());
        Edge.parkFault(six + "tune", 6, six.length());
        Edge.parkFault(six + "tune ta loud 99", 6, six.length());
        six = bands(6);
        Edge.parkFault(six + "band bg at 0 0 strength 1 lips 1;", 6, six.length());
        Edge.parkFault(six + " band", 6, six.length() + 1);
        String entries = "park 1 by 1;tune a loud 1 toll 1;band b at 0 0 strength 1 lips 1 plays a hush a hush a hush";
        Check.same("six entries", Check.made(entries + ";").band(0, 6), 6);
        Edge.parkFault(entries + " a;", 6, entries.length() + 1);
        Edge.parkFault(entries + " hush;", 6, entries.length() + 1);
        Edge.parkFault(entries + " a a;", 6, entries.length() + 1);
        Edge.promise(10, "TUNES, at most 6");
        Check.same("five", Check.made(tunes(5)).many(2), 5);
        Edge.promise(10, "BANDS, at most 6");
        Check.same("five", Check.made(bands(5)).many(3), 5);
        Edge.promise(10, "[plays ENTRY {ENTRY}]");
        String one = "park 1 by 1;tune a loud 1 toll 1;band b at 0 0 strength 1 lips 1 plays";
        Edge.parkFault(one + ";", 2, one.length());
        Edge.parkFault(one, 2, one.length());
        Check.same("one entry", Check.made(one + " a;").band(0, 6), 1);
    }

    // ---- what can't stand there

    private static void wordsOutOfPlace() {
        Edge.promise(10, "2 it can't stand there (the end: the text's length;");
        String[] whole = {"park 2 by 2", "fade 1", "rest 1", "odds 1", "tune a loud 1 toll 1", "tune a loud 1 toll 1 beats 3"};
        for (String text : whole) {
            endsEarly("", text);
        }
        endsEarly("park 2 by 2;", "pond 0 0");
        endsEarly("park 2 by 2;", "band b at 0 0 strength 1 lips 1");
        endsEarly("park 2 by 2;tune a loud 1 toll 1;", "band b at 0 0 strength 1 lips 1 plays a hush");
        Edge.parkFault("fade 1  \n", 2, 9);
        BandPark x = Edge.busy();
        Check.no("the text's length, not the tape's", x, x.park(11), 10);
        Check.same("the text's length, not the tape's", x.fault(0) * 100 + x.fault(1), 211);
        Edge.promise(10, "pond, band ahead of park: at that WORD");
        Edge.parkFault("pond 0 0;", 2, 0);
        Edge.parkFault("fade 1;pond 0 0;park 1 by 1;", 2, 7);
        Edge.parkFault("band a at 0 0 strength 1 lips 1;", 2, 0);
        Edge.parkFault("tune a loud 1 toll 1; band", 2, 22);
        Edge.promise(10, "told ahead of ponds and bands.");
        Check.made("tune a loud 1 toll 1;fade 1;rest 1;odds 1;park 1 by 1;band b at 0 0 strength 1 lips 1;");
        Edge.promise(10, "SIGNS ; < > =");
        Edge.parkFault(";", 2, 0);
        Edge.parkFault("fade 1;;", 2, 7);
        Edge.parkFault("fade < 1;", 2, 5);
        Edge.parkFault("fade 1>", 2, 6);
        Edge.parkFault("fade=1;", 2, 4);
        Edge.parkFault("3;", 2, 0);
        for (String word : KEYWORDS) {
            boolean begins = word.equals("park") || word.equals("fade") || word.equals("rest") || word.equals("odds")
                || word.equals("pond") || word.equals("tune") || word.equals("band");
            if (!begins) {
                Edge.parkFault("park 1 by 1; " + word + " 0 0;", 2, 13);
            }
        }
    }

    /** A part cut behind each of its tokens, and one with a ; there, lacks what comes next. */
    private static void endsEarly(String ahead, String part) {
        String[] tokens = part.split(" ");
        StringBuilder text = new StringBuilder(ahead);
        for (int i = 0; i < tokens.length; i++) {
            text.append(i > 0 ? " " : "").append(tokens[i]);
            boolean mayEnd = i == tokens.length - 1 || tokens[i + 1].equals("beats") || tokens[i + 1].equals("plays")
                || tokens[i].equals("a") && tokens[i + 1].equals("hush");
            Edge.parkFault(text.toString(), 2, text.length());
            Edge.parkFault(text + " ", 2, text.length() + 1);
            if (mayEnd) {
                Check.made(text + ";");
            } else {
                Edge.parkFault(text + ";", 2, text.length());
            }
        }
    }

    private static void partsLeftOut() {
        Edge.promise(10, "PARK: {PART}.");
        Check.made("");
        Check.made("park 1 by 1;");
        Check.made("fade 0;");
        BandPark x = Check.made("tune a loud 1 toll 1;");
        Check.told("tunes without a park", x, x.many(2), 1, 0);
        Check.told("no cells", x, x.many(0), 0, 0);
        Edge.parkFault("tune a toll 1 loud 1;", 2, 7);
        Edge.parkFault("tune a loud 1 beats 4;", 2, 14);
        Edge.parkFault("tune a loud 1 toll 1 beats 4 beats 4;", 2, 29);
        Edge.parkFault("tune loud 1 toll 1;", 2, 5);
        Edge.parkFault("park 1 by 1;band a at 0 0 lips 1 strength 1;", 2, 26);
        Edge.parkFault("park 1 by 1;band a at 0 0 strength 1 plays hush;", 2, 37);
        Edge.parkFault("park 1 by 1;band a at 0 strength 1 lips 1;", 2, 24);
        Edge.parkFault("park 1 by 1;band a strength 1 lips 1;", 2, 19);
        Edge.parkFault("park 1 by 1;band at 0 0 strength 1 lips 1;", 2, 17);
        Edge.parkFault("park 1 by 1;pond 0;", 2, 18);
        Edge.parkFault("park 1 by 1;pond 0 0 0;", 2, 21);
        Edge.parkFault("park 1;", 2, 6);
        Edge.parkFault("park by 1;", 2, 5);
    }

    private static void toldAlready() {
        Edge.promise(10, "5 park, fade, rest, odds told already (at that WORD)");
        Edge.parkFault("park 2 by 2;park 2 by 2;", 5, 12);
        Edge.parkFault("park 2 by 2;fade 1;park", 5, 19);
        Edge.parkFault("fade 1;fade 1;", 5, 7);
        Edge.parkFault("fade 2;fade", 5, 7);
        Edge.parkFault("rest 1;rest 99;", 5, 7);
        Edge.parkFault("rest 2;fade 2;odds 4;rest 2;", 5, 21);
        Edge.parkFault("odds 4;odds 4;", 5, 7);
        Check.made("park 1 by 1;fade 1;rest 1;odds 1;pond 0 0;pond 0 0;tune a loud 1 toll 1;tune b loud 1 toll 1;");
        BandPark x = Check.made("fade 1;rest 1;odds 1;park 1 by 1;");
        Check.told("told in another text before", x, Check.park(x, "fade 3;rest 1;odds 1;park 1 by 1;"), 0, 0);
        Check.same("told in another text before", x.many(4), 3);
    }

    private static void stands() {
        Edge.promise(10, "a BAND AT a CELL where one is (at the row).");
        int n = TWO.length();
        Edge.parkFault(TWO + "band c at 1 0 strength 1 lips 1;", 5, n + 12);
        Edge.parkFault(TWO + "band c at 1 0", 5, n + 12);
        Edge.parkFault(TWO + "band c at 0 1 strength 1 lips 1;band d at 0 1 strength 1 lips 1;", 5, n + 44);
        Edge.parkFault(TWO + "band c at 0 1 strength 1 lips 1;band d at 1 0 strength 1 lips 1;", 5, n + 44);
        Check.made(TWO + "band c at 0 1 strength 1 lips 1;");
        Check.made(TWO + "band c at 1 1 strength 1 lips 1;");
        Check.made(TWO + "band c at 0 0 strength 1 lips 1;");
        Edge.promise(10, "AT a CELL, none where another one is");
        BandPark x = Check.made(TWO);
        Check.told("one of the old park is none", x, Check.park(x, "park 2 by 1;band z at 1 0 strength 1 lips 1;"), 1, 0);
    }

    private static void leastKind() {
        Edge.promise(10, "FAULTS, the first along the text (of one TOKEN the least kind)");
        Edge.parkFault("fade 99;!", 4, 5);
        Edge.parkFault("!fade 99;", 1, 0);
        Edge.parkFault("fade 9 9;fade 99;", 2, 7);
        Edge.parkFault("park 9 by 9;", 4, 5);
        int n = TWO.length();
        Edge.parkFault(TWO + "band a at 9 9 strength 99 lips 999;", 3, n + 5);
        Edge.parkFault(TWO + "band c at 9 0 strength 1 lips 1;", 4, n + 10);
        Edge.parkFault(TWO + "band c at 1 9 strength 1 lips 1;", 4, n + 12);
        String entries = "park 1 by 1;tune a loud 1 toll 1;band b at 0 0 strength 1 lips 1 plays a a a a a a ";
        Edge.parkFault(entries + "c;", 3, entries.length());
        Edge.parkFault(entries + "b;", 3, entries.length());
        Edge.parkFault(entries + "lips;", 2, entries.length());
        Edge.parkFault(entries + "abcdefghi;", 2, entries.length());
        Edge.parkFault(entries + "5;", 2, entries.length());
        Edge.parkFault(entries + "<;", 2, entries.length());
        Edge.parkFault(entries + "00005;", 1, entries.length());
        Edge.parkFault(entries + "#;", 1, entries.length());
        Edge.parkFault(entries + "", 2, entries.length());
        Edge.parkFault("pond ahead", 2, 0);
    }
}
