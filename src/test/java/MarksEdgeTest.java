/** Edges of promises 59 and 60: MARKS. */
public final class MarksEdgeTest {
    public static void main(String[] args) throws Exception {
        Edge.begin(args);
        marksRefused();
        marks();
        backRefused();
        backToTheLatest();
        backOfEachThing();
        backOfParks();
        backOfEvenings();
        backAndHeard();
        whatStays();
        Edge.end(59, 60);
    }

    private static void marksRefused() {
        Edge.promise(59, "A MARK more: how many there are (7).");
        BandPark x = Edge.busy();
        Check.told("a second", x, x.mark(), 2, 0);
        Check.told("a third", x, x.mark(), 3, 0);
        BandPark y = Edge.busy();
        y.mark();
        y.mark();
        Check.no("a fourth", x, x.mark(), 7);
        Check.no("a fourth", x, x.mark(), 7);
        Edge.same("a fourth mark", x, y);
    }

    private static void marks() {
        Edge.promise(59, "MARKS, at most 3");
        BandPark x = new BandPark();
        for (int i = 1; i <= 3; i++) {
            Check.told("mark " + i, x, x.mark(), i, 0);
        }
        Check.no("a fourth", x, x.mark(), 7);
        Check.told("back", x, x.back(), 2, 0);
        Check.told("room again", x, x.mark(), 3, 0);
        Check.no("a fourth", x, x.mark(), 7);
        for (int i = 2; i >= 0; i--) {
            Check.told("back " + i, x, x.back(), i, 0);
        }
        Check.told("from the first on", x, x.mark(), 1, 0);
        x = Edge.busy();
        BandPark y = Edge.busy();
        x.mark();
        Check.told("a mark changes nothing", x, x.many(7), y.many(7), 0);
        Check.told("a mark changes nothing", x, x.live(3), y.live(3), 0);
        Check.told("a mark changes nothing", x, x.band(0, 5), y.band(0, 5), 0);
    }

    private static void backRefused() {
        Edge.promise(60, "how many there are left (8).");
        BandPark x = new BandPark();
        Check.no("none", x, x.back(), 8);
        x = Edge.bare();
        Check.told("the one there is", x, x.back(), 0, 0);
        BandPark y = Edge.bare();
        y.back();
        Check.no("it is gone then", x, x.back(), 8);
        Edge.same("back without a mark", x, y);
        x = Check.made(Edge.PARK);
        x.hour(5);
        Check.no("none", x, x.back(), 8);
        Check.told("the hour stays", x, x.many(7), 5, 0);
    }

    private static void backToTheLatest() {
        Edge.promise(60, "all is taken back to the latest MARK, which is gone then.");
        BandPark x = Check.made(Edge.PARK);
        x.mark();
        x.hour(1);
        x.mark();
        x.hour(2);
        x.mark();
        x.hour(4);
        Check.told("two left", x, x.back(), 2, 0);
        Check.told("hour 3", x, x.many(7), 3, 0);
        Check.told("one left", x, x.back(), 1, 0);
        Check.told("hour 1", x, x.many(7), 1, 0);
        x.hour(9);
        x.mark();
        x.hour(9);
        Check.told("the new one", x, x.back(), 1, 0);
        Check.told("hour 10", x, x.many(7), 10, 0);
        Check.told("the first one", x, x.back(), 0, 0);
        Check.told("hour 0", x, x.many(7), 0, 0);
        Check.no("no more", x, x.back(), 8);
        x.mark();
        x.hour(3);
        x.back();
        Check.told("what was done behind a mark does not touch it", x, x.many(7), 0, 0);
    }

    private static void backOfEachThing() {
        Edge.promise(60, "the PARK with all that became of it");
        BandPark x = Edge.bare();
        x.mark();
        x.hour(1);
        x.wind(x.many(8) == 0 ? 1 : 0);
        x.rain(x.many(9) == 0);
        x.set(0, 1, 6);
        x.set(0, 2, 2);
        x.drop(1);
        x.drop(1);
        x.move(0, 2, 2);
        x.move(2, 0, 2);
        x.train(0, 19);
        x.soothe(2, 0);
        x.rule(4, 7);
        x.rule(5, 7);
        x.rule(6, 7);
        x.dig(0, 0, true);
        x.dig(1, 1, false);
        x.live(1);
        Check.evenings(x, "stop;");
        x.back();
        BandPark y = Edge.bare();
        for (int what = 0; what < 15; what++) {
            Check.told("many " + what, x, x.many(what), y.many(what), 0);
        }
        for (int band = 0; band < 3; band++) {
            for (int what = 0; what < 7; what++) {
                Check.told("band " + band + " " + what, x, x.band(band, what), y.band(band, what), 0);
            }
            for (int k = 0; k < 3; k++) {
                Check.same("entry", x.entry(band, k), y.entry(band, k));
            }
        }
        for (int cell = 0; cell < 12; cell++) {
            Check.told("pond", x, x.pond(cell % 4, cell / 4), y.pond(cell % 4, cell / 4), 0);
            Check.same("holder", x.holder(cell % 4, cell / 4), y.holder(cell % 4, cell / 4));
            Check.same("loudest", x.loudest(cell % 4, cell / 4), y.loudest(cell % 4, cell / 4));
        }
        Check.told("the evenings", x, x.live(4), y.live(4), 0);
        Check.told("as they were", x, x.band(0, 5), y.band(0, 5), 0);
    }

    private static void backOfParks() {
        Edge.promise(60, "the PARK with all that became of it");
        BandPark x = new BandPark();
        x.hour(3);
        x.rule(6, 9);
        x.mark();
        Check.park(x, Edge.PARK);
        x.mark();
        Check.park(x, "park 6 by 5;tune only loud 1 toll 1 beats 9;band solo at 5 4 strength 1 lips 99 plays only only only;");
        x.mark();
        Check.park(x, "");
        x.back();
        Check.same("6 by 5", x.many(0) * 10 + x.many(1), 65);
        Check.same("one tune, one band", x.many(2) * 10 + x.many(3), 11);
        Check.same("its programme", x.band(0, 6), 3);
        Check.same("its beats", x.tune(0, 2), 9);
        x.back();
        Check.same("4 by 3", x.many(0) * 10 + x.many(1), 43);
        Check.same("three, three", x.many(2) * 10 + x.many(3), 33);
        Check.same("beats", x.tune(1, 2), 6);
        Check.told("its names", x, Check.evenings(x, "when tired tuba;end;set north 0 waltz;"), 2, 0);
        x.back();
        Check.same("no cells", x.many(0) + x.many(1) + x.many(2) + x.many(3), 0);
        Check.same("hour 3, odds 9", x.many(7) * 10 + x.many(6), 39);
        Check.no("no names", x, Check.evenings(x, "when tired tuba;end;"), 10);
    }

    private static void backOfEvenings() {
        Edge.promise(60, "the EVENINGS are kept as they are");
        BandPark x = Check.made(Edge.PARK);
        x.mark();
        Check.evenings(x, "hour 1;");
        x.mark();
        Check.evenings(x, "hour 2;calm;rain;");
        x.mark();
        Check.evenings(x, "loop 2;hour 3;end;");
        Check.told("loop", x, x.live(0), 3, 0);
        x.back();
        Check.told("three steps", x, x.live(0), 3, 0);
        Check.told("hour 2", x, x.many(7), 2, 0);
        x.back();
        Check.told("one step", x, x.live(0), 1, 0);
        Check.told("hour 1", x, x.many(7), 1, 0);
        x.back();
        Check.no("none", x, x.live(0), 8);
        Check.evenings(x, "hour 5;");
        x.mark();
        Check.park(x, "park 1 by 1;");
        Check.no("none of a new park", x, x.live(0), 8);
        x.back();
        Check.told("those of the old one", x, x.live(0), 1, 0);
        Check.told("hour 5", x, x.many(7), 5, 0);
    }

    /** What is worked out about sound must follow, too. */
    private static void backAndHeard() {
        Edge.promise(60, "All is taken back to the latest MARK");
        BandPark x = Check.made("park 3 by 1;fade 1;tune a loud 3 toll 0;band b at 1 0 strength 0 lips 0 plays a;");
        Check.told("three cells", x, x.lawns(0), 3, 0);
        x.mark();
        x.rain(true);
        Check.told("one cell in rain", x, x.lawns(0), 1, 0);
        x.back();
        Check.told("three again", x, x.lawns(0), 3, 0);
        x.mark();
        x.rule(4, 3);
        Check.told("one cell", x, x.lawns(0), 1, 0);
        x.back();
        Check.told("three again", x, x.hour(1), 3, 0);
        x.mark();
        x.dig(0, 0, true);
        Check.told("a pond", x, x.hour(1), 5, 0);
        x.back();
        Check.told("none", x, x.hour(1), 3, 0);
    }

    private static void whatStays() {
        Edge.promise(60, "the PARK with all that became of it, the EVENINGS are kept as they are");
        BandPark x = Check.made(Edge.PARK);
        Check.evenings(x, "hour 1;");
        x.tray(0, 0, 2);
        x.mark();
        x.write(0, 1, 9);
        x.tray(1, 1, 1);
        x.wet(1, 1);
        x.live(0);
        Check.evenings(x, "hour");
        x.feed(0, 0, 0, 0, 0);
        Check.told("back", x, x.back(), 0, 0);
        Check.told("trays stay", x, x.read(0, 1), 9, 0);
        Check.told("trays stay", x, x.read(1, 0), 0, 0);
        Check.same("the fraction stays", x.top() * 10 + x.bottom(), 12);
        Check.told("what was lived stays", x, x.lived(1), 1, 0);
        Check.same("the fault stays", x.fault(0) * 10 + x.fault(1), 24);
        Check.same("the tape stays", x.feed(0, 0, 0, 0, 0), 40);
        Check.told("the hour does not", x, x.many(7), 0, 0);
    }
}
