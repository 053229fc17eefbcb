/** Each promise of the document by ordinary inputs, the edges that it names, and wrong inputs. */
public final class PromiseTest {
    private static final int MIN = Integer.MIN_VALUE;
    private static final int MAX = Integer.MAX_VALUE;

    /** 4 by 3; what is heard there is told in the comments of the tests. */
    private static final String FAIR =
        "park 4 by 3;fade 2;rest 2;odds 8;pond 1 1;pond 2 1;"
        + "tune march loud 4 toll 3 beats 4;tune waltz loud 2 toll 1 beats 6;tune polka loud 6 toll 5;"
        + "band north at 0 0 strength 8 lips 10 plays march waltz;"
        + "band south at 3 2 strength 7 lips 6 plays polka hush;"
        + "band tuba at 3 0 strength 3 lips 4;";

    public static void main(String[] args) {
        Check.about("promise 1");
        newObject();
        Check.about("promise 5 to 7");
        trays();
        Check.about("promise 8");
        pours();
        Check.about("promise 9 to 12");
        tape();
        Check.about("promise 10, 13 to 17");
        parksTaken();
        Check.about("promise 10, 12");
        parkFaults();
        Check.about("promise 11");
        eveningsTaken();
        Check.about("promise 11, 12");
        eveningsFaults();
        Check.about("promise 13");
        counts();
        Check.about("promise 18");
        hours();
        Check.about("promise 19, 20, 26, 27");
        weather();
        Check.about("promise 21, 22, 28");
        programmes();
        Check.about("promise 23 to 25");
        bandsChanged();
        Check.about("promise 29, 30");
        hearing();
        Check.about("promise 30 to 34");
        held();
        Check.about("promise 35 to 39");
        aheadOfNow();
        Check.about("promise 35 to 39");
        aheadToTheEnd();
        Check.about("promise 40, 41");
        holdings();
        Check.about("promise 42 to 44");
        bestAndLow();
        Check.about("promise 45, 46");
        games();
        Check.about("promise 47 to 49");
        alliances();
        Check.about("promise 50");
        bars();
        Check.about("promise 51, 52");
        lips();
        Check.about("promise 53, 54");
        ways();
        Check.about("promise 55");
        odds();
        Check.about("promise 56, 57");
        lives();
        Check.about("promise 56, 57");
        liveLimits();
        Check.about("promise 58");
        means();
        Check.about("promise 59, 60");
        marks();
        Check.end();
    }

    private static void newObject() {
        BandPark x = new BandPark();
        Check.same("status", x.status(), 0);
        Check.same("top", x.top(), 0);
        Check.same("bottom", x.bottom(), 1);
        Check.same("fault 0", x.fault(0), -1);
        Check.same("fault 1", x.fault(1), -1);
        int[] want = {0, 0, 0, 0, 2, 2, 4, 0, 4, 0, 0, 0, 0, 0, 0};
        for (int i = 0; i < want.length; i++) {
            Check.told("many " + i, x, x.many(i), want[i], 0);
        }
        for (int i = 0; i < 4; i++) {
            Check.no("read", x, x.read(i, 0), 3);
        }
        Check.no("holder", x, x.holder(0, 0), 2);
        Check.no("best", x, x.best(0), 2);
        Check.no("game", x, x.game(0, 0, 9), 2);
        Check.no("quiet", x, x.quiet(0, 0, 0, 0), 2);
        Check.no("alliance", x, x.alliance(), 8);
        Check.told("hour", x, x.hour(99), 0, 0);
        Check.no("live", x, x.live(0), 8);
        Check.no("back", x, x.back(), 8);
        Check.no("park of an empty tape", x, x.park(1), 5);
    }

    private static void trays() {
        BandPark x = new BandPark();
        Check.flag("tray 4", x, x.tray(4, 0, 1), 1);
        Check.flag("tray -1", x, x.tray(-1, 0, 1), 1);
        Check.flag("sort 4", x, x.tray(0, 4, 99), 1);
        Check.flag("sort -1", x, x.tray(0, -1, -1), 1);
        Check.flag("61", x, x.tray(0, 0, 61), 5);
        Check.flag("-1", x, x.tray(0, 0, -1), 6);
        Check.flag("60", x, x.tray(0, 0, 60), 0);
        Check.told("all 0", x, x.read(0, 59), 0, 0);
        Check.no("behind", x, x.read(0, 60), 4);
        Check.flag("write behind", x, x.write(0, 60, 1), 4);
        Check.flag("write ahead", x, x.write(0, -1, 1), 4);
        Check.flag("write 4", x, x.write(4, 0, 1), 1);
        Check.flag("write missing", x, x.write(1, 0, 1), 3);
        Check.no("read 4", x, x.read(4, 0), 1);
        Check.no("read missing", x, x.read(3, -1), 3);
        long[] cut = {-1, -2, -3, 0x7fffffff7ffffffdL};
        long[] put = {0xff, 0x1fffe, 0x1fffffffdL, 0x7fffffff7ffffffdL};
        for (int sort = 0; sort < 4; sort++) {
            Check.flag("lay", x, x.tray(sort, sort, 2), 0);
            Check.flag("put", x, x.write(sort, 1, put[sort]), 0);
            Check.told("cut " + sort, x, x.read(sort, 1), cut[sort], 0);
            Check.told("beside " + sort, x, x.read(sort, 0), 0, 0);
        }
        x.write(0, 0, 128);
        Check.told("8 bits", x, x.read(0, 0), -128, 0);
        Check.flag("laid anew", x, x.tray(0, 0, 2), 0);
        Check.told("all 0 again", x, x.read(0, 1), 0, 0);
        x.tray(0, 3, 0);
        Check.no("an empty row", x, x.read(0, 0), 4);
        Check.flag("refused", x, x.tray(1, 0, 61), 5);
        Check.told("stays", x, x.read(1, 1), -2, 0);
    }

    private static void pours() {
        BandPark x = new BandPark();
        x.tray(0, 2, 5);
        x.tray(1, 2, 3);
        x.tray(2, 1, 3);
        for (int i = 0; i < 5; i++) {
            x.write(0, i, i + 1);
        }
        Check.flag("no tray, ahead of missing", x, x.pour(3, 0, 4, 0, 1), 1);
        Check.flag("no tray", x, x.pour(-1, 0, 0, 0, 1), 1);
        Check.flag("missing", x, x.pour(3, 0, 0, 0, 1), 3);
        Check.flag("missing too", x, x.pour(0, 0, 3, 0, 1), 3);
        Check.flag("unlike", x, x.pour(0, 0, 2, 0, -1), 11);
        Check.flag("below 0", x, x.pour(0, 9, 1, 9, -1), 6);
        Check.flag("ahead", x, x.pour(0, -1, 1, 0, 1), 4);
        Check.flag("ahead too", x, x.pour(0, 0, 1, -1, 1), 4);
        Check.flag("too many to take", x, x.pour(0, 3, 1, 0, 3), 4);
        Check.flag("too many to put", x, x.pour(0, 0, 1, 1, 3), 4);
        Check.flag("far too many", x, x.pour(0, 1, 1, 1, MAX), 4);
        Check.flag("far behind", x, x.pour(0, MAX, 1, 0, 1), 4);
        Check.flag("poured", x, x.pour(0, 2, 1, 0, 3), 0);
        Check.same("1", x.read(1, 0) * 100 + x.read(1, 1) * 10 + x.read(1, 2), 345);
        Check.flag("over itself", x, x.pour(0, 0, 0, 1, 4), 0);
        long row = 0;
        for (int i = 0; i < 5; i++) {
            row = row * 10 + x.read(0, i);
        }
        Check.same("as they were", row, 11234);
        Check.flag("back over itself", x, x.pour(0, 1, 0, 0, 4), 0);
        Check.same("as they were", x.read(0, 0) * 1000 + x.read(0, 3) * 10 + x.read(0, 4), 1044);
        Check.flag("none", x, x.pour(0, 5, 1, 3, 0), 0);
        Check.flag("none behind", x, x.pour(0, 6, 1, 3, 0), 4);
    }

    private static void tape() {
        BandPark x = new BandPark();
        x.many(99);
        for (int i = 1; i <= 45; i++) {
            Check.same("feed", x.feed(0x20202020, 0x20202020, 0x20202020, 0x20202020, 0x20202020), 20 * i);
        }
        Check.same("full", x.feed(0, 0, 0, 0, 0), -1);
        Check.same("feed has no status", x.status(), 5);
        Check.no("beyond", x, x.park(901), 5);
        Check.no("below", x, x.park(-1), 5);
        Check.no("evenings beyond 300", x, x.evenings(301), 5);
        Check.no("evenings below", x, x.evenings(-1), 5);
        Check.told("blanks alone", x, x.park(900), 0, 0);
        Check.same("empty then", x.feed(0, 0, 0, 0, 0), 20);
        Check.no("a fault", x, x.park(1), 10);
        Check.same("empty then, too", x.feed(0, 0, 0, 0, 0), 20);
        Check.no("beyond the tape", x, x.evenings(21), 5);
        Check.same("not empty then", x.feed(0, 0, 0, 0, 0), 40);
        Check.no("evenings with a fault", x, x.evenings(5), 10);
        Check.same("the highest byte first", x.feed(0x7061726b, 0x31627931, 0x3b0a2020, 0, 0), 20);
        Check.told("without blanks", x, x.park(12), 0, 0);
        Check.told("wide", x, x.many(0), 1, 0);
        Check.told("nothing", x, x.evenings(0), 0, 0);
        Check.same("fault", x.fault(0), 0);
        Check.same("place", x.fault(1), -1);
        Check.same("fault 2", x.fault(2), -1);
        Check.same("fault -1", x.fault(-1), -1);
    }

    private static void parksTaken() {
        BandPark x = Check.made("");
        Check.same("no cells", x.many(0) + x.many(1), 0);
        x = Check.made("tune a loud 20 toll 9 beats 99;\nfade 9;rest 0;odds 16;park 6 by 5;pond 5 4;pond 5 4;pond 0 0;"
            + "tune b loud 0 toll 0 beats 1;tune c loud 0001 toll 0002;"
            + "band d at 5 4 strength 20 lips 99 plays hush a b c hush a;band eeeeeeee at 0 0 strength 0 lips 0;");
        int[] want = {6, 5, 3, 2, 9, 0, 16, 0, 4, 0, 2};
        for (int i = 0; i < want.length; i++) {
            Check.same("many " + i, x.many(i), want[i]);
        }
        int[] tunes = {20, 9, 99, 0, 0, 1, 1, 2, 4};
        for (int i = 0; i < 9; i++) {
            Check.same("tune", x.tune(i / 3, i % 3), tunes[i]);
        }
        int[] band = {5, 4, 20, 99, 99, 0, 6};
        for (int i = 0; i < 7; i++) {
            Check.same("band", x.band(0, i), band[i]);
        }
        int[] entries = {6, 0, 1, 2, 6, 0};
        for (int i = 0; i < 6; i++) {
            Check.same("entry", x.entry(0, i), entries[i]);
        }
        Check.no("entry 6", x, x.entry(0, 6), 8);
        Check.no("entry -1", x, x.entry(0, -1), 8);
        Check.no("entry of none", x, x.entry(1, 0), 8);
        Check.no("entry of no band", x, x.entry(2, 0), 2);
        Check.no("tune 3", x, x.tune(3, 9), 2);
        Check.no("tune what", x, x.tune(2, 3), 5);
        Check.no("tune what", x, x.tune(2, -1), 5);
        Check.no("band what", x, x.band(1, -1), 5);
        Check.no("band -1", x, x.band(-1, 0), 2);
        Check.told("pond", x, x.pond(5, 4), 1, 0);
        Check.told("no pond", x, x.pond(4, 4), 0, 0);
        Check.no("no cell", x, x.pond(5, 5), 2);
        Check.no("no cell", x, x.pond(-1, 0), 2);
        x.hour(7);
        x.wind(1);
        x.rain(true);
        Check.evenings(x, "stop;");
        Check.same("taken", Check.park(x, "park 1 by 1;band a at 0 0 strength 9 lips 9;"), 1);
        int[] anew = {1, 1, 0, 1, 2, 2, 4, 0, 4, 0, 0, 0, 1, 0, 0};
        for (int i = 0; i < anew.length; i++) {
            Check.same("anew " + i, x.many(i), anew[i]);
        }
        Check.same("points", x.band(0, 5), 0);
        Check.no("no evenings", x, x.live(0), 8);
    }

    private static void parkFault(String text, int kind, int place) {
        BandPark x = Check.made("park 2 by 2;");
        Check.evenings(x, "stop;");
        Check.no(text, x, Check.park(x, text), 10);
        Check.same(text + ": fault", x.fault(0), kind);
        Check.same(text + ": place", x.fault(1), place);
        Check.same("the old one stays", x.many(0), 2);
        Check.told("its evenings, too", x, x.live(0), 1, 0);
    }

    private static void parkFaults() {
        parkFault("!", 1, 0);
        parkFault("park 2 by 2,", 1, 11);
        parkFault("park 00002 by 2;", 1, 5);
        parkFault("fade 12345;", 1, 5);
        parkFault("Fade 1;", 1, 0);
        parkFault("fade\t1;", 1, 4);
        parkFault("fade 1" + (char) 233, 1, 6);
        parkFault("fade", 2, 4);
        parkFault("fade  ", 2, 6);
        parkFault("fade ;", 2, 5);
        parkFault("fade 1 1;", 2, 7);
        parkFault("fade 1", 2, 6);
        parkFault("; ", 2, 0);
        parkFault("<", 2, 0);
        parkFault("fade = 1;", 2, 5);
        parkFault("fades 1;", 2, 0);
        parkFault("hour 1;", 2, 0);
        parkFault("pond 0 0;", 2, 0);
        parkFault("tune a loud 1 toll 1;band b at 0 0 strength 1 lips 1;", 2, 21);
        parkFault("park 2 at 2;", 2, 7);
        parkFault("park 2 2;", 2, 7);
        parkFault("tune a 1 toll 1;", 2, 7);
        parkFault("tune a loud 1 1;", 2, 14);
        parkFault("park 1 by 1;band a 0 0 strength 1 lips 1;", 2, 19);
        parkFault("park 1 by 1;band a at 0 0 1 lips 1;", 2, 26);
        parkFault("park 1 by 1;band a at 0 0 strength 1 1;", 2, 37);
        parkFault("park 2 by 2;park 2 by 2;", 5, 12);
        parkFault("fade 1;fade 1;", 5, 7);
        parkFault("rest 1;rest 1;", 5, 7);
        parkFault("odds 1;fade 1;odds 1;", 5, 14);
        parkFault("park 0 by 2;", 4, 5);
        parkFault("park 7 by 2;", 4, 5);
        parkFault("park 6 by 0;", 4, 10);
        parkFault("park 6 by 6;", 4, 10);
        parkFault("fade 10;", 4, 5);
        parkFault("rest 10;", 4, 5);
        parkFault("odds 17;", 4, 5);
        parkFault("park 2 by 3;pond 2 0;", 4, 17);
        parkFault("park 2 by 3;pond 1 3;", 4, 19);
        parkFault("tune a loud 21 toll 0;", 4, 12);
        parkFault("tune a loud 20 toll 10;", 4, 20);
        parkFault("tune a loud 20 toll 9 beats 0;", 4, 28);
        parkFault("tune a loud 20 toll 9 beats 100;", 4, 28);
        parkFault("tune a loud 20 toll 9 beats 9", 2, 29);
        parkFault("tune a loud 20 toll 9 beat 9;", 2, 22);
        parkFault("tune aaaaaaaaa loud 1 toll 1;", 2, 5);
        parkFault("tune hush loud 1 toll 1;", 2, 5);
        parkFault("tune raining loud 1 toll 1;", 2, 5);
        parkFault("tune 5 loud 1 toll 1;", 2, 5);
        parkFault("tune a loud 1 toll 1;tune a loud 99 toll 1;", 3, 26);
        String two = "park 2 by 2;tune a loud 1 toll 1;band b at 1 0 strength 1 lips 1;";
        int n = two.length();
        parkFault(two + "tune b loud 1 toll 1;", 3, n + 5);
        parkFault(two + "band a at 0 0 strength 1 lips 1;", 3, n + 5);
        parkFault(two + "band b at 0 0 strength 1 lips 1;", 3, n + 5);
        parkFault(two + "band c at 2 0 strength 1 lips 1;", 4, n + 10);
        parkFault(two + "band c at 1 2 strength 1 lips 1;", 4, n + 12);
        parkFault(two + "band c at 1 0 strength 21 lips 1;", 5, n + 12);
        parkFault(two + "band c at 0 0 strength 21 lips 1;", 4, n + 23);
        parkFault(two + "band c at 0 0 strength 20 lips 100;", 4, n + 31);
        parkFault(two + "band c at 0 0 strength 1 lips 1 plays;", 2, n + 37);
        parkFault(two + "band c at 0 0 strength 1 lips 1 plays a 1;", 2, n + 40);
        parkFault(two + "band c at 0 0 strength 1 lips 1 plays b;", 3, n + 38);
        parkFault(two + "band c at 0 0 strength 1 lips 1 plays c;", 3, n + 38);
        parkFault(two + "band c at 0 0 strength 1 lips 1 plays a abcdefghi;", 2, n + 40);
        parkFault(two + "band c at 0 0 strength 1 lips 1 plays a abcdefgh;", 3, n + 40);
        parkFault(two + "band c at 0 0 strength 1 lips 1 plays a plays;", 2, n + 40);
        parkFault(two + "band c at 0 0 strength 1 lips 1 plays a a a a a a a;", 6, n + 50);
        parkFault(two + "band c at 0 0 strength 1 lips 1 plays a a a a a a hush;", 6, n + 50);
        parkFault(two + "band c at 0 0 strength 1 lips 1 plays a a a a a a x;", 3, n + 50);
        parkFault(two + "band c at 0 0 strength 1 lips 1 plays a a a a a a at;", 2, n + 50);
        parkFault(two + "band c at 0 0 strength 1 lips 1 plays a a a a a a ?;", 1, n + 50);
        StringBuilder many = new StringBuilder("park 6 by 5;");
        for (int i = 0; i < 6; i++) {
            many.append("tune t").append((char) ('a' + i)).append(" loud 1 toll 1;");
        }
        parkFault(many + "tune ta loud 1 toll 1;", 6, many.length());
        for (int i = 0; i < 6; i++) {
            many.append("band b").append((char) ('a' + i)).append(" at ").append(i).append(" 4 strength 1 lips 1;");
        }
        Check.made(many.toString());
        parkFault(many + "band park", 6, many.length());
    }

    private static void eveningsTaken() {
        BandPark x = Check.made(FAIR);
        String all = "hour 20;wind 3;calm;rain;dry;set north 5 hush;set south 0 polka;any;"
            + "when holds tuba<0;when tired north;when raining;"
            + "end;end;end;when holds north = 30;loop 99;loop 1;end;end;end;stop;";
        Check.told(all, x, Check.evenings(x, all), 15, 0);
        Check.same("no fault", x.fault(0), 0);
        StringBuilder thirty = new StringBuilder();
        for (int i = 0; i < 30; i++) {
            thirty.append(i == 0 ? "loop 2;" : "calm;");
        }
        thirty.append("end;");
        Check.told("thirty", x, Check.evenings(x, thirty.toString()), 30, 0);
        Check.no("a fault", x, Check.evenings(x, "hour;"), 10);
        Check.told("the old ones stay", x, x.live(1), 59, 0);
    }

    private static void eveningsFault(String text, int kind, int place) {
        BandPark x = Check.made(FAIR);
        Check.no(text, x, Check.evenings(x, text), 10);
        Check.same(text + ": fault", x.fault(0), kind);
        Check.same(text + ": place", x.fault(1), place);
    }

    private static void eveningsFaults() {
        eveningsFault("park 1 by 1;", 2, 0);
        eveningsFault("hour;", 2, 4);
        eveningsFault("hour 1", 2, 6);
        eveningsFault("hour 0;", 4, 5);
        eveningsFault("hour 21;", 4, 5);
        eveningsFault("wind 4;", 4, 5);
        eveningsFault("stop", 2, 4);
        eveningsFault("stop;end;", 2, 5);
        eveningsFault("loop 100;", 4, 5);
        eveningsFault("loop 0;", 4, 5);
        eveningsFault("loop 9; stop; ", 2, 14);
        eveningsFault("loop 9; stop; end", 2, 17);
        eveningsFault("when rain;end;", 2, 5);
        eveningsFault("when;end;", 2, 4);
        eveningsFault("when holds north 3;end;", 2, 17);
        eveningsFault("when raining end;", 2, 13);
        eveningsFault("when holds march < 3;end;", 3, 11);
        eveningsFault("when holds nobody < 3;end;", 3, 11);
        eveningsFault("when holds hush < 3;end;", 2, 11);
        eveningsFault("when holds abcdefghi < 3;end;", 2, 11);
        eveningsFault("when holds north ; 3;end;", 2, 17);
        eveningsFault("when holds north < 31;end;", 4, 19);
        eveningsFault("when holds north < ;end;", 2, 19);
        eveningsFault("when tired;end;", 2, 10);
        eveningsFault("when tired waltz;end;", 3, 11);
        eveningsFault("set march 0 hush;", 3, 4);
        eveningsFault("set north 6 hush;", 4, 10);
        eveningsFault("set north 0 tuba;", 3, 12);
        eveningsFault("set north 0 any;", 2, 12);
        eveningsFault("set north hush;", 2, 10);
        eveningsFault("loop 1;when raining;loop 1;when raining;end;", 7, 27);
        eveningsFault("loop 1;when raining;loop 1;loop;", 7, 27);
        eveningsFault("stop; 12345", 1, 6);
        eveningsFault("stop: ", 1, 4);
        StringBuilder thirty = new StringBuilder("loop 1;loop 1;loop 1;");
        for (int i = 0; i < 27; i++) {
            thirty.append("dry;");
        }
        eveningsFault(thirty + "dry", 6, thirty.length());
        eveningsFault(thirty + "loop 1;", 6, thirty.length());
        eveningsFault(thirty + "fade 1;", 2, thirty.length());
        eveningsFault(thirty + "end;end;end;end;", 2, thirty.length() + 12);
        BandPark x = new BandPark();
        Check.no("no bands", x, Check.evenings(x, "when tired north;end;"), 10);
        Check.same("no such", x.fault(0), 3);
    }

    private static void counts() {
        BandPark x = Check.made("park 3 by 1;fade 5;tune a loud 1 toll 4;tune b loud 0 toll 2;"
            + "band c at 0 0 strength 5 lips 3 plays a;band d at 2 0 strength 6 lips 9 plays b;"
            + "band e at 1 0 strength 0 lips 0;");
        // c is tired; d is heard by 1, 6 .. of which column 0 has nothing
        Check.told("plays", x, x.many(13), 2, 0);
        Check.told("tired", x, x.many(14), 1, 0);
        Check.told("silent", x, x.many(12), 1, 0);
        Check.told("blur", x, x.many(11), 0, 0);
        x.set(0, 0, 1);
        x.train(0, 6);
        Check.told("both play", x, x.many(13), 3, 0);
        Check.told("the middle is a blur", x, x.many(11), 1, 0);
        Check.told("none is silent", x, x.many(12), 0, 0);
        Check.no("15", x, x.many(15), 5);
        Check.no("-1", x, x.many(-1), 5);
        x.train(0, 0);
        x.train(1, 0);
        Check.told("heard by 0 is not heard", x, x.many(12), 3, 0);
        Check.told("but they play", x, x.many(13), 3, 0);
    }

    private static void hours() {
        BandPark x = Check.made(FAIR);
        Check.no("0", x, x.hour(0), 5);
        Check.no("100", x, x.hour(100), 5);
        Check.told("first", x, x.hour(1), 16, 0);
        Check.told("points", x, x.band(0, 5), 8, 0);
        Check.told("lips less", x, x.band(0, 3), 7, 0);
        Check.told("lips as many as were told at most", x, x.band(2, 3), 4, 0);
        x.soothe(2, 1);
        Check.told("second", x, x.hour(1), 15, 0);
        Check.told("rests", x, x.band(2, 3), 3, 0);
        Check.told("rests", x, x.band(1, 3), 3, 0);
        Check.told("tired", x, x.many(14), 2, 0);
        Check.told("plays", x, x.plays(1), 6, 0);
        x.hour(1);
        Check.told("the tired rest", x, x.band(1, 3), 5, 0);
        x = new BandPark();
        for (int i = 0; i < 101; i++) {
            x.hour(99);
        }
        Check.same("9,999", x.many(7), 9999);
        Check.no("no more", x, x.hour(1), 7);
        Check.no("a wrong number comes first", x, x.hour(100), 5);
        Check.same("9,999 still", x.many(7), 9999);
    }

    private static void weather() {
        BandPark x = Check.made(FAIR);
        Check.flag("5", x, x.wind(5), 5);
        Check.flag("-1", x, x.wind(-1), 5);
        Check.flag("calm is so", x, x.wind(4), 9);
        for (int to = 0; to < 4; to++) {
            Check.flag("wind", x, x.wind(to), 0);
            Check.same("wind", x.many(8), to);
            Check.flag("so", x, x.wind(to), 9);
        }
        Check.flag("calm", x, x.wind(4), 0);
        Check.flag("dry is so", x, x.rain(false), 9);
        Check.flag("rain", x, x.rain(true), 0);
        Check.same("rain", x.many(9), 1);
        Check.flag("rain is so", x, x.rain(true), 9);
        Check.flag("dry", x, x.rain(false), 0);
        Check.same("dry", x.many(9), 0);
        Check.flag("rule 3", x, x.rule(3, 0), 5);
        Check.flag("rule 7", x, x.rule(7, 0), 5);
        int[] most = {9, 9, 16};
        for (int what = 4; what < 7; what++) {
            Check.flag("rule", x, x.rule(what, -1), 5);
            Check.flag("rule", x, x.rule(what, most[what - 4] + 1), 5);
            Check.flag("rule", x, x.rule(what, most[what - 4]), 0);
            Check.same("rule", x.many(what), most[what - 4]);
            Check.flag("rule again", x, x.rule(what, most[what - 4]), 0);
            Check.flag("rule", x, x.rule(what, 0), 0);
            Check.same("rule", x.many(what), 0);
        }
        Check.flag("dig no cell", x, x.dig(4, 0, true), 2);
        Check.flag("dig so", x, x.dig(1, 1, true), 9);
        Check.flag("fill so", x, x.dig(0, 0, false), 9);
        Check.flag("fill", x, x.dig(1, 1, false), 0);
        Check.flag("dig", x, x.dig(3, 2, true), 0);
        Check.same("ponds", x.pond(1, 1) * 10 + x.pond(3, 2), 1);
    }

    private static void programmes() {
        BandPark x = Check.made(FAIR);
        Check.no("no band", x, x.set(3, 9, 0), 2);
        Check.no("no tune", x, x.set(0, 9, 3), 2);
        Check.no("no tune", x, x.set(0, 0, 7), 2);
        Check.no("no tune", x, x.set(0, 0, -1), 2);
        Check.no("beyond", x, x.set(0, 3, 0), 5);
        Check.no("below", x, x.set(0, -1, 0), 5);
        Check.told("changed", x, x.set(0, 0, 6), 2, 0);
        Check.told("changed", x, x.entry(0, 0), 6, 0);
        for (int k = 2; k < 6; k++) {
            Check.told("one more", x, x.set(0, k, k % 3), k + 1, 0);
        }
        Check.no("6", x, x.set(0, 6, 0), 5);
        Check.told("the last", x, x.set(0, 5, 6), 6, 0);
        for (int k = 5; k >= 0; k--) {
            Check.told("drop", x, x.drop(0), k, 0);
        }
        Check.no("none", x, x.drop(0), 8);
        Check.no("no band", x, x.drop(-1), 2);
        Check.told("none plays hush", x, x.plays(0), 6, 0);
        x.hour(5);
        x.set(0, 0, 1);
        x.set(0, 1, 6);
        x.set(0, 2, 0);
        Check.told("round and round: place 5 of 3", x, x.plays(0), 0, 0);
        Check.no("no band", x, x.plays(3), 2);
    }

    private static void bandsChanged() {
        BandPark x = Check.made(FAIR);
        Check.flag("no band", x, x.move(3, 0, 0), 2);
        Check.flag("no cell", x, x.move(0, 4, 0), 2);
        Check.flag("another one", x, x.move(0, 3, 0), 9);
        Check.flag("itself", x, x.move(0, 0, 0), 9);
        Check.flag("goes", x, x.move(0, 1, 2), 0);
        Check.same("there", x.band(0, 0) * 10 + x.band(0, 1), 12);
        Check.flag("and back", x, x.move(0, 0, 0), 0);
        Check.flag("no band", x, x.train(3, 0), 2);
        Check.flag("21", x, x.train(0, 21), 5);
        Check.flag("-1", x, x.train(0, -1), 5);
        Check.flag("20", x, x.train(0, 20), 0);
        Check.same("20", x.band(0, 2), 20);
        Check.same("heard at once", x.loudest(0, 0), 24);
        Check.flag("0", x, x.train(0, 0), 0);
        Check.flag("no band", x, x.soothe(-1, 0), 2);
        Check.flag("too many", x, x.soothe(2, 5), 5);
        Check.flag("-1", x, x.soothe(2, -1), 5);
        Check.flag("0", x, x.soothe(2, 0), 0);
        Check.same("0", x.band(2, 3), 0);
        Check.flag("all", x, x.soothe(2, 4), 0);
        Check.same("the most stays", x.band(2, 4), 4);
    }

    private static void hearing() {
        BandPark x = Check.made("park 5 by 5;fade 3;tune a loud 10 toll 1;band b at 2 2 strength 20 lips 1;");
        int[][] steps = {{1, 0}, {0, 1}, {-1, 0}, {0, -1}};
        for (int to = 0; to < 5; to++) {
            x.wind(to);
            for (int i = 0; i < 4; i++) {
                int column = 2 + 2 * steps[i][0];
                int row = 2 + 2 * steps[i][1];
                int each = to == 4 ? 3 : i == to ? 2 : (i + 2) % 4 == to ? 4 : 3;
                Check.told("two steps", x, x.heard(0, 0, column, row), 30 - 2 * each, 0);
            }
        }
        x.wind(0);
        Check.told("a corner with the wind", x, x.heard(0, 0, 4, 4), 30 - 4 - 6, 0);
        Check.told("a corner against it", x, x.heard(0, 0, 0, 0), 30 - 8 - 6, 0);
        x.rain(true);
        Check.told("rain", x, x.heard(0, 0, 2, 2), 28, 0);
        Check.told("hush", x, x.heard(0, 6, 2, 2), 0, 0);
        x.rule(4, 9);
        Check.told("0 at least", x, x.heard(0, 0, 0, 0), 0, 0);
        x.rule(4, 0);
        Check.told("0 at least a step", x, x.heard(0, 0, 4, 2), 28, 0);
        Check.told("one more against", x, x.heard(0, 0, 0, 2), 26, 0);
        Check.no("no tune", x, x.heard(0, 1, 0, 0), 2);
        Check.no("no band", x, x.heard(1, 0, 0, 0), 2);
        Check.no("no cell", x, x.heard(0, 0, 0, 5), 2);
        Check.no("no cell", x, x.heard(0, 0, -1, 0), 2);
        Check.no("no cell", x, x.loudest(5, 0), 2);
        Check.told("nobody plays", x, x.loudest(2, 2), 0, 0);
    }

    private static void held() {
        BandPark x = Check.made("park 3 by 2;fade 2;pond 1 0;pond 0 1;pond 2 1;tune a loud 4 toll 1;"
            + "band l at 0 0 strength 2 lips 9 plays a;band r at 2 0 strength 2 lips 9 plays a;");
        // rows: 6 4 2 / 4 2 0 from the left, likewise from the right
        Check.told("left", x, x.holder(0, 0), 0, 0);
        Check.told("right", x, x.holder(2, 1), 1, 0);
        Check.no("blur", x, x.holder(1, 0), 9);
        Check.no("no cell", x, x.holder(3, 0), 2);
        Check.told("loudest", x, x.loudest(1, 1), 2, 0);
        Check.told("lawns", x, x.lawns(0), 2, 0);
        Check.no("no band", x, x.lawns(2), 2);
        Check.flag("ponds", x, x.ponds(0), 0);
        Check.same("a third", x.top() * 10 + x.bottom(), 13);
        Check.flag("no band", x, x.ponds(2), 2);
        Check.same("stays", x.top() * 10 + x.bottom(), 13);
        Check.no("no tray", x, x.copyHeld(4), 1);
        Check.no("missing", x, x.copyHeld(0), 3);
        x.tray(0, 0, 5);
        Check.no("too few", x, x.copyHeld(0), 4);
        x.tray(0, 0, 7);
        x.write(0, 6, 99);
        Check.told("copied", x, x.copyHeld(0), 6, 0);
        int[] want = {0, -1, 1, 0, -1, 1, 99};
        for (int i = 0; i < 7; i++) {
            Check.told("held", x, x.read(0, i), want[i], 0);
        }
        x.drop(1);
        x.rain(true);
        Check.no("silent", x, x.holder(2, 1), 8);
        Check.told("by one alone", x, x.holder(1, 0), 0, 0);
        x.dig(1, 0, false);
        x.dig(0, 1, false);
        Check.flag("none", x, x.ponds(0), 0);
        Check.same("0 by 1", x.top() * 10 + x.bottom(), 1);
        x.dig(2, 1, false);
        Check.flag("no pond", x, x.ponds(0), 8);
    }

    private static void aheadOfNow() {
        BandPark x = Check.made(FAIR);
        Check.no("201", x, x.holderIn(0, 0, 201), 5);
        Check.no("-1", x, x.holderIn(0, 0, -1), 5);
        Check.no("no cell", x, x.holderIn(0, 3, 201), 2);
        Check.no("no band", x, x.pointsIn(3, 201), 2);
        Check.no("201", x, x.pointsIn(0, 201), 5);
        Check.no("no band", x, x.lipsIn(-1, 0), 2);
        Check.no("-1", x, x.lipsIn(0, -1), 5);
        Check.no("no band", x, x.tiredIn(3), 2);
        Check.no("no cell", x, x.changesIn(0, 3), 2);
        Check.told("silent", x, x.holderIn(3, 2, 1), -1, 8);
        Check.told("4", x, x.tiredIn(0), 4, 0);
        Check.told("4", x, x.changesIn(0, 0), 4, 0);
        Check.no("never", x, x.tiredIn(2), 8);
        x.hour(1);
        for (int hours = 0; hours <= 200; hours += 50) {
            BandPark y = Check.made(FAIR);
            y.hour(1);
            for (int i = 0; i < hours; i++) {
                y.hour(1);
            }
            for (int b = 0; b < 3; b++) {
                Check.told("points", x, x.pointsIn(b, hours), y.band(b, 5), 0);
                Check.told("lips", x, x.lipsIn(b, hours), y.band(b, 3), 0);
            }
            Check.same("holder", x.holderIn(1, 1, hours), y.holder(1, 1));
            Check.same("its status", x.status(), y.status());
        }
        Check.same("all stays", x.many(7), 1);
        x = Check.made("park 2 by 1;fade 0;tune a loud 1 toll 0;band b at 0 0 strength 1 lips 0 plays a;"
            + "band c at 1 0 strength 1 lips 0 plays a hush;");
        Check.no("blur in 2", x, x.holderIn(0, 0, 2), 9);
        Check.told("b in 1", x, x.holderIn(0, 0, 1), 0, 0);
        Check.told("from a blur", x, x.changesIn(0, 0), 1, 0);
        Check.no("toll 0 tires nobody", x, x.tiredIn(0), 8);
        x.set(0, 1, 6);
        Check.no("a blur and silent are nobody", x, x.changesIn(0, 0), 8);
        x = Check.made("park 1 by 1;rest 0;tune a loud 1 toll 1;band b at 0 0 strength 1 lips 99 plays a;");
        Check.told("99 hours", x, x.tiredIn(0), 99, 0);
        Check.told("then it is silent", x, x.changesIn(0, 0), 99, 0);
        x.set(0, 1, 6);
        x.set(0, 2, 6);
        Check.no("beyond 200", x, x.tiredIn(0), 8);
        x.soothe(0, 67);
        Check.no("hour 201", x, x.tiredIn(0), 8);
        x.hour(1);
        x.soothe(0, 66);
        Check.told("hour 200", x, x.tiredIn(0), 200, 0);
        Check.told("silent now, and held in 2", x, x.changesIn(0, 0), 2, 0);
        for (int i = 0; i < 100; i++) {
            x.hour(99);
        }
        x.hour(98);
        Check.same("late", x.many(7), 9999);
        x.soothe(0, 99);
        Check.told("9,999 does not matter: place 0", x, x.lipsIn(0, 1), 98, 0);
        Check.told("9,999 does not matter: places 1, 2, 0", x, x.lipsIn(0, 4), 97, 0);
    }

    private static void aheadToTheEnd() {
        BandPark x = Check.made("park 1 by 1;rest 0;tune a loud 1 toll 1;tune b loud 1 toll 0;"
            + "band c at 0 0 strength 1 lips 67 plays a b b;");
        Check.no("in 201", x, x.changesIn(0, 0), 8);
        Check.no("in 201", x, x.tiredIn(0), 8);
        x.hour(1);
        Check.told("in 200", x, x.changesIn(0, 0), 200, 0);
        Check.told("in 200", x, x.tiredIn(0), 200, 0);
        Check.told("held in 199", x, x.holderIn(0, 0, 199), 0, 0);
        Check.no("silent in 200", x, x.holderIn(0, 0, 200), 8);
        Check.told("points in 200", x, x.pointsIn(0, 200), 201, 0);
    }

    private static void holdings() {
        BandPark x = Check.made(FAIR);
        Check.no("no band", x, x.holding(3, 0, 0, 9), 2);
        Check.no("no cell", x, x.holding(0, 4, 0, 9), 2);
        Check.no("0", x, x.holding(0, 0, 0, 0), 5);
        Check.no("5", x, x.holding(0, 0, 0, 5), 5);
        Check.no("no cell", x, x.holdingAt(0, 4, 0, 9, 9), 2);
        Check.no("5", x, x.holdingAt(0, 0, 0, 5, 9), 5);
        Check.no("k", x, x.holdingAt(0, 0, 0, 2, 2), 8);
        Check.no("k", x, x.holdingAt(0, 0, 0, 2, -1), 8);
        Check.told("tuba", x, x.holding(2, 3, 0, 2), 1, 0);
        Check.told("tuba", x, x.holdingAt(2, 3, 0, 2, 0), 0, 0);
        Check.told("tuba", x, x.holdingAt(2, 3, 0, 2, 1), 1, 0);
        x = Check.made("park 1 by 1;rest 1;tune a loud 5 toll 3;tune b loud 5 toll 1;band c at 0 0 strength 0 lips 3;");
        Check.told("4", x, x.holding(0, 0, 0, 4), 3, 0);
        int got = 0;
        for (int k = 0; k < 4; k++) {
            got = got * 10 + x.holdingAt(0, 0, 0, 4, k);
        }
        // b (lips 2), a is tired (3), b (2), b (1): three hours; a first leaves lips for two alone
        Check.same("the first by tunes", got, 1011);
        x = Check.made("park 1 by 1;band c at 0 0 strength 0 lips 3;");
        Check.told("no tunes", x, x.holding(0, 0, 0, 3), 0, 0);
        Check.told("hush", x, x.holdingAt(0, 0, 0, 3, 2), 6, 0);
    }

    private static void bestAndLow() {
        BandPark x = Check.made("park 1 by 1;band c at 0 0 strength 0 lips 3;");
        Check.no("no band", x, x.best(1), 2);
        Check.no("no tunes", x, x.best(0), 8);
        Check.no("no tunes", x, x.bestLawns(0), 8);
        Check.no("no band", x, x.bestLawns(-1), 2);
        Check.no("with none", x, x.low(0, 0, 0), 8);
        x = Check.made("park 3 by 1;fade 2;tune a loud 0 toll 1;tune b loud 9 toll 7;tune c loud 9 toll 5;tune d loud 3 toll 5;"
            + "band l at 0 0 strength 3 lips 0;band r at 2 0 strength 3 lips 9 plays d;");
        // r is heard by 2 4 6
        Check.told("lips are not asked", x, x.best(0), 1, 0);
        Check.told("all of them", x, x.bestLawns(0), 3, 0);
        Check.told("low: a with 3", x, x.low(0, 0, 0), 1, 0);
        Check.told("low: b, c with 10", x, x.low(0, 1, 0), 5, 0);
        Check.told("low", x, x.low(1, 1, 0), 1, 0);
        Check.no("no cell", x, x.low(0, 3, 0), 2);
        Check.no("no band", x, x.low(2, 0, 0), 2);
        x.train(1, 14);
        Check.no("with none", x, x.low(0, 1, 0), 8);
        Check.told("of several the first", x, x.best(0), 0, 0);
        Check.told("none", x, x.bestLawns(0), 0, 0);
    }

    private static void games() {
        BandPark x = Check.made("park 3 by 1;fade 2;tune a loud 1 toll 9;tune b loud 5 toll 9;"
            + "band l at 0 0 strength 3 lips 0 plays b;band r at 2 0 strength 3 lips 9 plays a;");
        // l is tired; r is heard by 0 2 4, so that it holds two
        Check.no("no band", x, x.game(0, 2, 9), 2);
        Check.no("itself", x, x.game(0, 0, 1), 5);
        Check.no("4", x, x.game(0, 1, 4), 5);
        Check.no("-1", x, x.game(0, 1, -1), 5);
        Check.told("0", x, x.game(0, 1, 0), -2, 0);
        Check.told("0", x, x.game(1, 0, 0), 2, 0);
        // l with b is heard by 8 6 4: it holds two, the last is a blur
        Check.told("1", x, x.game(0, 1, 1), 2, 0);
        Check.told("2", x, x.game(0, 1, 2), 0, 0);
        Check.told("3", x, x.game(0, 1, 3), 0, 0);
        Check.told("move", x, x.moveOf(0, 1, 1), 1, 0);
        Check.no("0", x, x.moveOf(0, 1, 0), 5);
        Check.no("4", x, x.moveOf(0, 1, 4), 5);
        Check.no("itself", x, x.moveOf(1, 1, 1), 5);
        Check.no("no band", x, x.moveOf(1, 2, 0), 2);
        x.move(0, 1, 0);
        x.soothe(1, 8);
        // now both are tired
        Check.told("all by b", x, x.game(0, 1, 1), 3, 0);
        x.train(0, 0);
        x.rule(4, 9);
        // a and b hold one cell alike
        Check.told("of all that are as good the first", x, x.moveOf(0, 1, 1), 0, 0);
        x = Check.made("park 2 by 1;fade 0;tune a loud 1 toll 0;tune b loud 2 toll 0;"
            + "band l at 0 0 strength 0 lips 0 plays b;band r at 1 0 strength 0 lips 0 plays a;");
        Check.no("it stays", x, x.moveOf(0, 1, 1), 8);
        Check.told("r makes a blur", x, x.moveOf(1, 0, 1), 1, 0);
        x.train(0, 20);
        Check.told("another one as good", x, x.moveOf(0, 1, 1), 0, 0);
        x.set(0, 0, 0);
        Check.told("another one as good", x, x.moveOf(0, 1, 1), 1, 0);
        x = Check.made("park 2 by 1;fade 0;band l at 0 0 strength 0 lips 0;band r at 1 0 strength 0 lips 0;");
        Check.told("nothing to play", x, x.game(0, 1, 3), 0, 0);
        Check.no("hush is to stay", x, x.moveOf(0, 1, 3), 8);
        x = Check.made("park 2 by 1;fade 9;tune a loud 0 toll 0;tune b loud 0 toll 0;band l at 0 0 strength 0 lips 0 plays a;"
            + "band r at 1 0 strength 0 lips 0 plays b;");
        Check.told("the other tune", x, x.moveOf(0, 1, 1), 1, 0);
        x = Check.made("park 2 by 1;fade 9;tune a loud 0 toll 0;band l at 0 0 strength 0 lips 0 plays a;"
            + "band r at 1 0 strength 0 lips 0 plays a;");
        Check.told("hush ahead of staying", x, x.moveOf(0, 1, 1), 6, 0);
    }

    private static void alliances() {
        BandPark x = Check.made("park 5 by 1;fade 1;tune a loud 2 toll 0;tune z loud 0 toll 0;"
            + "band l at 0 0 strength 3 lips 0 plays a;band m at 2 0 strength 4 lips 0 plays a;band r at 4 0 strength 3 lips 0 plays a;");
        // 5 4 3 2 1 / 4 5 6 5 4 / 1 2 3 4 5
        Check.told("l alone", x, x.ally(1), 1, 0);
        Check.told("m alone", x, x.ally(2), 3, 0);
        // 6 6 6 6 6 against 4 5 6 5 4
        Check.told("l and r", x, x.ally(5), 4, 0);
        Check.told("l and m", x, x.ally(3), 4, 0);
        Check.told("all", x, x.ally(7), 5, 0);
        Check.told("nobody", x, x.ally(0), 0, 0);
        Check.no("8", x, x.ally(8), 5);
        Check.no("-1", x, x.ally(-1), 5);
        Check.no("nobody", x, x.stable(0), 5);
        Check.no("8", x, x.stable(8), 5);
        Check.no("far below", x, x.stable(MIN), 5);
        Check.told("alone", x, x.stable(2), 1, 0);
        Check.told("2 each", x, x.stable(5), 1, 0);
        Check.told("2 for m, that has 3", x, x.stable(3), 0, 0);
        Check.told("5 thirds for m", x, x.stable(7), 0, 0);
        Check.told("alliance", x, x.alliance(), 5, 0);
        x.drop(0);
        x.drop(1);
        x.drop(2);
        Check.told("no cells, of several the least", x, x.alliance(), 3, 0);
        Check.told("none is less than none", x, x.stable(7), 1, 0);
        x = Check.made("park 2 by 1;tune a loud 2 toll 0;band l at 0 0 strength 3 lips 0 plays a;band m at 1 0 strength 0 lips 0;");
        Check.no("none", x, x.alliance(), 8);
        Check.told("one cell of two", x, x.stable(3), 0, 0);
    }

    private static void bars() {
        BandPark x = Check.made("tune a loud 1 toll 1 beats 4;tune b loud 1 toll 1 beats 6;tune c loud 1 toll 1 beats 99;"
            + "tune d loud 1 toll 1 beats 98;tune e loud 1 toll 1 beats 1;");
        Check.told("0", x, x.together(0, 0, 1, 0), 0, 0);
        Check.told("both", x, x.together(0, 2, 1, 0), 6, 0);
        Check.told("behind the later", x, x.together(0, 2, 1, 12), 18, 0);
        Check.told("itself", x, x.together(0, 3, 0, 99), 99, 0);
        Check.no("never", x, x.together(0, 1, 1, 0), 8);
        Check.told("far", x, x.together(2, 0, 3, 97), 97 * 99, 0);
        Check.told("one bar behind", x, x.together(2, 0, 3, 1), 99, 0);
        Check.told("far behind the later", x, x.together(2, 99, 3, 98), far(99, 99, 98, 98), 0);
        Check.told("each", x, x.together(4, 0, 3, 99), 99, 0);
        Check.no("no tune", x, x.together(5, -1, 0, 0), 2);
        Check.no("no tune", x, x.together(0, 0, 6, 0), 2);
        Check.no("-1", x, x.together(0, -1, 0, 0), 5);
        Check.no("100", x, x.together(0, 0, 0, 100), 5);
        Check.no("far", x, x.together(0, MAX, 0, MAX), 5);
    }

    private static int far(int beats, int late, int otherBeats, int otherLate) {
        for (int beat = 0; beat < 30000; beat++) {
            if (beat >= late && beat >= otherLate && (beat - late) % beats == 0 && (beat - otherLate) % otherBeats == 0) {
                return beat;
            }
        }
        return -1;
    }

    private static void lips() {
        BandPark x = Check.made("park 1 by 1;rest 2;tune a loud 1 toll 3;tune b loud 1 toll 1;"
            + "band c at 0 0 strength 1 lips 10 plays a b;");
        Check.no("no tray", x, x.fits(9, 4, 99), 1);
        Check.no("no band", x, x.fits(9, 0, 99), 2);
        Check.no("missing", x, x.fits(0, 0, 99), 3);
        x.tray(0, 3, 25);
        Check.no("too few", x, x.fits(0, 0, 26), 4);
        Check.no("25", x, x.fits(0, 0, 25), 5);
        Check.no("-1", x, x.fits(0, 0, -1), 5);
        Check.told("none asked", x, x.fits(0, 0, 0), 11, 0);
        // hush in hour 0: lips 0 to 2, then 2 to 4
        Check.told("tired", x, x.fits(0, 0, 1), 3, 0);
        Check.told("b in hour 1 can be played", x, x.fits(0, 0, 2), 0, 0);
        Check.no("none", x, x.fitsAt(0, 0, 2, 0), 8);
        x.write(0, 1, 1);
        Check.told("then b", x, x.fits(0, 0, 2), 3, 0);
        Check.told("least", x, x.fitsAt(0, 0, 2, 0), 0, 0);
        Check.told("most", x, x.fitsAt(0, 0, 2, 1), 2, 0);
        Check.no("what", x, x.fitsAt(0, 0, 2, 2), 5);
        Check.no("what", x, x.fitsAt(0, 0, 2, -1), 5);
        Check.no("no tray", x, x.fitsAt(9, -1, 99, 9), 1);
        Check.no("no band", x, x.fitsAt(-1, 3, 99, 9), 2);
        Check.no("missing", x, x.fitsAt(0, 3, 99, 9), 3);
        Check.no("too few", x, x.fitsAt(0, 0, 99, 9), 4);
        x.write(0, 0, 1);
        Check.told("3 to 10, or more than 3", x, x.fits(0, 0, 2), 7, 0);
        Check.told("least", x, x.fitsAt(0, 0, 2, 0), 4, 0);
        Check.told("most", x, x.fitsAt(0, 0, 2, 1), 10, 0);
        x.write(0, 2, 2);
        Check.told("not asked", x, x.fits(0, 0, 2), 7, 0);
        Check.no("neither", x, x.fits(0, 0, 3), 5);
        x.write(0, 2, 1L << 32);
        Check.no("neither", x, x.fits(0, 0, 3), 5);
        x.hour(3);
        x.soothe(0, 0);
        Check.told("from hour 0, whatever is now", x, x.fits(0, 0, 2), 7, 0);
        x.rule(5, 0);
        x.set(0, 0, 6);
        Check.told("hush is not played", x, x.fits(0, 0, 1), 0, 0);
        x.write(0, 0, 0);
        Check.told("hush", x, x.fits(0, 0, 1), 11, 0);
        Check.told("toll 1, rest 0", x, x.fitsAt(0, 0, 2, 0), 1, 0);
    }

    private static void ways() {
        BandPark x = Check.made("park 3 by 3;fade 4;tune a loud 9 toll 0;band m at 1 1 strength 0 lips 0 plays a;");
        // 1 5 1 / 5 9 5 / 1 5 1
        Check.told("itself", x, x.quiet(1, 1, 1, 1), 9, 0);
        Check.told("itself", x, x.quietSteps(1, 1, 1, 1), 0, 0);
        Check.told("around", x, x.quiet(0, 1, 2, 1), 5, 0);
        Check.told("around", x, x.quietSteps(0, 1, 2, 1), 4, 0);
        Check.told("the end counts", x, x.quiet(0, 0, 1, 1), 9, 0);
        Check.told("the end counts", x, x.quietSteps(0, 0, 1, 1), 2, 0);
        Check.told("the beginning counts", x, x.quietSteps(1, 1, 2, 2), 2, 0);
        Check.no("no cell", x, x.quiet(3, 0, 0, 0), 2);
        Check.no("no cell", x, x.quiet(0, 0, 0, 3), 2);
        Check.no("no cell", x, x.quietSteps(0, -1, 0, 0), 2);
        Check.no("no cell", x, x.quietSteps(0, 0, 3, 0), 2);
        x.drop(0);
        Check.told("silence", x, x.quiet(0, 0, 2, 2), 0, 0);
        Check.told("straight", x, x.quietSteps(0, 0, 2, 2), 4, 0);
        x = Check.made("park 1 by 1;tune a loud 20 toll 0;band m at 0 0 strength 20 lips 0 plays a;");
        Check.told("40", x, x.quiet(0, 0, 0, 0), 40, 0);
        Check.told("40", x, x.quietSteps(0, 0, 0, 0), 0, 0);
        x = Check.made("park 5 by 2;fade 9;tune a loud 9 toll 0;band m at 1 0 strength 0 lips 0 plays a;band n at 3 1 strength 0 lips 0 plays a;");
        // . 9 . . . / . . . 9 .
        Check.told("down and up", x, x.quiet(0, 0, 4, 1), 0, 0);
        Check.told("down and up", x, x.quietSteps(0, 0, 4, 1), 7, 0);
    }

    private static void odds() {
        BandPark x = new BandPark();
        Check.flag("13", x, x.wet(13, 0), 5);
        Check.flag("13", x, x.wet(0, 13), 5);
        Check.flag("-1", x, x.wet(-1, 0), 5);
        Check.flag("-1", x, x.wet(0, -1), 5);
        fraction(x, 0, 0, 1, 1);
        fraction(x, 0, 1, 0, 1);
        fraction(x, 1, 1, 1, 4);
        fraction(x, 2, 1, 7, 16);
        fraction(x, 12, 0, 1, 1);
        fraction(x, 12, 12, 1, 1L << 24);
        fraction(x, 5, 6, 0, 1);
        x.rule(6, 1);
        fraction(x, 12, 12, 1, 1L << 48);
        fraction(x, 12, 11, 12 * 15 + 1, 1L << 48);
        x.rule(6, 0);
        fraction(x, 12, 1, 0, 1);
        fraction(x, 12, 0, 1, 1);
        x.rule(6, 16);
        fraction(x, 12, 12, 1, 1);
        Check.flag("13", x, x.wet(13, 0), 5);
        Check.same("the fraction stays", x.top() + x.bottom(), 2);
    }

    private static void fraction(BandPark x, int n, int k, long top, long bottom) {
        Check.flag("wet " + n + " " + k, x, x.wet(n, k), 0);
        Check.same("top " + n + " " + k, x.top(), top);
        Check.same("bottom " + n + " " + k, x.bottom(), bottom);
    }

    private static void tally(String what, BandPark x, int missed, int hours, int points, int tired, int left) {
        int[] want = {missed, hours, points, tired, left};
        for (int i = 0; i < 5; i++) {
            Check.told(what + ": lived " + i, x, x.lived(i), want[i], 0);
        }
    }

    private static void lives() {
        BandPark x = Check.made(FAIR);
        Check.no("-1", x, x.live(-1), 5);
        Check.no("10,000", x, x.live(10000), 5);
        Check.no("no evenings", x, x.live(9999), 8);
        Check.no("5 ahead of 8", x, x.lived(5), 5);
        Check.no("none", x, x.lived(4), 8);
        Check.evenings(x, "hour 2;wind 0;wind 0;calm;calm;rain;rain;dry;dry;set tuba 0 hush;set north 2 march;set north 1 march;");
        Check.told("done", x, x.live(0), 12, 0);
        tally("missed", x, 6, 2, 31, 0, 0);
        Check.told("set", x, x.entry(0, 1), 0, 0);
        Check.told("hour", x, x.many(7), 2, 0);
        Check.told("points", x, x.band(0, 5) + x.band(1, 5), 31, 0);
        // south wants polka in hour 2 with 3 lips
        Check.evenings(x, "hour 1;stop;hour 20;");
        Check.told("stop", x, x.live(0), 2, 0);
        // north is heard in all cells, two of them ponds
        tally("stop", x, 0, 1, 16, 1, 0);
        Check.no("live fails", x, x.live(-1), 5);
        Check.told("of the latest with status 0", x, x.lived(1), 1, 0);
        Check.no("5", x, x.lived(-1), 5);
        anyDraws();
        whens();
    }

    /** The draws, reckoned here once more by hand. */
    private static void anyDraws() {
        for (int seed = 0; seed <= 9999; seed += 1111) {
            BandPark x = Check.made("odds 8;");
            Check.evenings(x, "any;");
            int s = (seed * 2971 + 10781) % 65536;
            int rain = s / 8 % 16 < 8 ? 1 : 0;
            s = (s * 2971 + 10781) % 65536;
            int wind = s / 8 % 5;
            Check.told("any", x, x.live(seed), 1, 0);
            Check.same("rain", x.many(9), rain);
            Check.same("wind", x.many(8), wind);
            Check.same("never missed", x.lived(0), 0);
            s = (seed * 2971 + 10781) % 65536;
            s = (s * 2971 + 10781) % 65536;
            s = (s * 2971 + 10781) % 65536;
            Check.evenings(x, "any;any;");
            x.live(seed);
            Check.same("the third draw", x.many(9), s / 8 % 16 < 8 ? 1 : 0);
        }
    }

    private static void whens() {
        String[] so = {"holds north > 5", "holds north < 7", "holds north = 6", "holds tuba = 0", "tired tuba", "raining"};
        String[] not = {"holds north > 6", "holds north < 6", "holds north = 5", "holds tuba > 0", "tired north"};
        BandPark x = Check.made(FAIR);
        x.mark();
        x.set(2, 0, 2);
        for (String test : so) {
            Check.evenings(x, (test.equals("raining") ? "rain;" : "") + "when " + test + ";wind 1;end;");
            x.live(0);
            Check.same(test, x.many(8), 1);
            x.wind(4);
        }
        x.rain(false);
        for (String test : not) {
            Check.evenings(x, "when " + test + ";wind 1;end;");
            Check.told(test, x, x.live(0), 1, 0);
            Check.same(test, x.many(8), 4);
        }
        Check.evenings(x, "when raining;wind 1;end;wind 2;");
        Check.told("dry", x, x.live(0), 2, 0);
        Check.same("behind the end", x.many(8), 2);
    }

    private static void liveLimits() {
        BandPark x = Check.made("park 1 by 1;");
        Check.evenings(x, "loop 99;loop 2;calm;end;end;");
        // 1 + 99 * 3
        Check.told("298", x, x.live(0), 298, 0);
        tally("298", x, 198, 0, 0, 0, 0);
        Check.evenings(x, "loop 99;loop 2;calm;end;end;dry;dry;loop 99;end;");
        Check.told("300", x, x.live(0), 300, 0);
        tally("one left", x, 200, 0, 0, 0, 1);
        Check.evenings(x, "loop 99;loop 2;calm;end;end;dry;loop 99;loop 99;end;end;");
        Check.told("300", x, x.live(0), 300, 0);
        tally("the inner loop is left", x, 199, 0, 0, 0, 1);
        Check.evenings(x, "loop 99;loop 2;calm;end;end;dry;loop 99;end;");
        Check.told("300", x, x.live(0), 300, 0);
        tally("an empty loop leaves nothing", x, 199, 0, 0, 0, 0);
        Check.evenings(x, "loop 99;loop 2;calm;end;end;dry;dry;stop;");
        Check.told("300", x, x.live(0), 300, 0);
        tally("the stop is left", x, 200, 0, 0, 0, 1);
        Check.evenings(x, "loop 99;loop 99;loop 99;end;end;end;");
        Check.told("300", x, x.live(0), 300, 0);
        tally("loops alone", x, 0, 0, 0, 0, 1);
        Check.evenings(x, "loop 99;hour 20;loop 1;stop;end;hour 3;end;hour 1;");
        Check.told("a stop within", x, x.live(0), 4, 0);
        tally("a stop within", x, 0, 20, 0, 0, 0);
        Check.evenings(x, "loop 99;loop 99;hour 20;end;end;");
        x.live(0);
        Check.told("20 + 297 of 20", x, x.many(7), 20 + 20 * 296, 0);
        x.live(0);
        tally("as a whole", x, 296 - 202, 202 * 20, 0, 0, 1);
        Check.told("9,980", x, x.many(7), 5940 + 4040, 0);
        Check.evenings(x, "hour 20;hour 19;hour 1;");
        x.live(0);
        tally("as a whole", x, 2, 19, 0, 0, 0);
    }

    private static void means() {
        BandPark x = Check.made(FAIR);
        Check.flag("no evenings", x, x.mean(0, 0, 1), 8);
        Check.flag("no band", x, x.mean(3, -1, 0), 2);
        Check.flag("0", x, x.mean(0, 0, 0), 5);
        Check.flag("21", x, x.mean(0, 0, 21), 5);
        Check.flag("-1", x, x.mean(0, -1, 1), 5);
        Check.flag("10,000", x, x.mean(0, 10000, 1), 5);
        Check.flag("the last above", x, x.mean(0, 9981, 20), 5);
        Check.flag("far", x, x.mean(0, MAX, 20), 5);
        Check.evenings(x, "hour 1;any;hour 3;set north 0 polka;any;hour 2;");
        x.hour(3);
        x.mark();
        long[] sum = new long[3];
        for (int seed = 9980; seed <= 9999; seed++) {
            BandPark y = Check.made(FAIR);
            Check.evenings(y, "hour 1;any;hour 3;set north 0 polka;any;hour 2;");
            y.hour(3);
            y.live(seed);
            for (int b = 0; b < 3; b++) {
                sum[b] += y.band(b, 5);
            }
        }
        for (int b = 0; b < 3; b++) {
            Check.flag("mean", x, x.mean(b, 9980, 20), 0);
            Check.same("mean", x.top() * 20, sum[b] * x.bottom());
            Check.yes("no common divisor", x.bottom() == 20 / gcd(20, sum[b]));
        }
        Check.same("all stays", x.many(7), 3);
        Check.no("nothing was lived", x, x.lived(0), 8);
    }

    private static long gcd(long a, long b) {
        return b == 0 ? a : gcd(b, a % b);
    }

    private static void marks() {
        BandPark x = Check.made(FAIR);
        Check.evenings(x, "hour 1;wind 2;");
        Check.told("1", x, x.mark(), 1, 0);
        x.live(0);
        x.tray(0, 0, 1);
        x.write(0, 0, 7);
        x.wet(1, 1);
        Check.told("2", x, x.mark(), 2, 0);
        Check.park(x, "park 1 by 1;tune only loud 1 toll 1;");
        Check.told("3", x, x.mark(), 3, 0);
        Check.no("4", x, x.mark(), 7);
        Check.park(x, "park 2 by 2;");
        Check.told("back", x, x.back(), 2, 0);
        Check.same("1 by 1", x.many(0) * 10 + x.many(2), 11);
        Check.no("no evenings", x, x.live(0), 8);
        Check.told("back", x, x.back(), 1, 0);
        Check.same("4", x.many(0), 4);
        Check.same("wind", x.many(8), 2);
        Check.same("points", x.band(0, 5), 8);
        Check.told("its evenings", x, x.live(0), 2, 0);
        Check.told("of live() latest", x, x.lived(0), 1, 0);
        Check.told("again", x, x.mark(), 2, 0);
        Check.told("back", x, x.back(), 1, 0);
        Check.told("back", x, x.back(), 0, 0);
        int[] want = {4, 3, 3, 3, 2, 2, 8, 0, 4, 0, 2};
        for (int i = 0; i < want.length; i++) {
            Check.same("as it was " + i, x.many(i), want[i]);
        }
        Check.same("points", x.band(0, 5) + x.band(1, 5), 0);
        Check.same("lips", x.band(0, 3), 10);
        Check.no("none", x, x.back(), 8);
        Check.told("trays are no part of it", x, x.read(0, 0), 7, 0);
        Check.same("the fraction, too", x.top() * 10 + x.bottom(), 12);
        Check.told("the names, too", x, Check.evenings(x, "when tired tuba;end;"), 1, 0);
    }
}
