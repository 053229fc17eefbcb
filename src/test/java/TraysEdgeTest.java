/** Edges of promises 1 to 8: a new object, STATUS, the FRACTION, TRAYS. */
public final class TraysEdgeTest {
    public static void main(String[] args) throws Exception {
        Edge.begin(args);
        newTrays();
        newPark();
        newRest();
        statusOfTheLatest();
        callsWithoutStatus();
        fractions();
        trayLengths();
        traySorts();
        trayLaidAgain();
        writes();
        cuts();
        reads();
        poursRefused();
        poursInOrder();
        pours();
        Edge.end(1, 8);
    }

    private static void newTrays() {
        Edge.promise(1, "TRAYS are MISSING");
        for (int tray = 0; tray < 4; tray++) {
            BandPark x = new BandPark();
            Check.no("read", x, x.read(tray, 0), 3);
            Check.flag("write", x, x.write(tray, 0, 1), 3);
            Check.flag("pour", x, x.pour(tray, 0, tray, 0, 0), 3);
            Check.no("copyHeld", x, x.copyHeld(tray), 3);
        }
    }

    private static void newPark() {
        Edge.promise(1, "a PARK of no CELLS (FADE 2, REST 2, ODDS 4)");
        BandPark x = new BandPark();
        int[] want = {0, 0, 0, 0, 2, 2, 4, 0, 4, 0, 0, 0, 0, 0, 0};
        for (int i = 0; i < want.length; i++) {
            Check.told("many " + i, x, x.many(i), want[i], 0);
        }
        Check.no("pond", x, x.pond(0, 0), 2);
        Check.flag("dig", x, x.dig(0, 0, true), 2);
        Check.no("holder", x, x.holder(0, 0), 2);
        Check.no("loudest", x, x.loudest(0, 0), 2);
        Check.no("holderIn", x, x.holderIn(0, 0, 0), 2);
        Check.no("changesIn", x, x.changesIn(0, 0), 2);
        Check.no("quiet", x, x.quiet(0, 0, 0, 0), 2);
        Check.no("quietSteps", x, x.quietSteps(0, 0, 0, 0), 2);
        Check.no("tune", x, x.tune(0, 0), 2);
        Check.no("band", x, x.band(0, 0), 2);
        Check.no("best", x, x.best(0), 2);
        Check.no("together", x, x.together(0, 0, 0, 0), 2);
        Check.told("ally of nobody", x, x.ally(0), 0, 0);
        Check.no("ally of one", x, x.ally(1), 5);
        Check.no("stable", x, x.stable(1), 5);
        Check.no("alliance", x, x.alliance(), 8);
        Check.told("hour", x, x.hour(1), 0, 0);
        Check.flag("wet", x, x.wet(1, 1), 0);
        Check.same("odds 4 of 16", x.top() * 10 + x.bottom(), 14);
        x.tray(0, 0, 0);
        Check.told("copyHeld of no cells", x, x.copyHeld(0), 0, 0);
    }

    private static void newRest() {
        Edge.promise(1, "no EVENINGS, MARKS, an empty tape");
        BandPark x = new BandPark();
        Check.no("live", x, x.live(0), 8);
        Check.no("lived", x, x.lived(0), 8);
        Check.no("back", x, x.back(), 8);
        Check.told("the first mark", x, x.mark(), 1, 0);
        Check.no("park 1", x, x.park(1), 5);
        Check.no("evenings 1", x, x.evenings(1), 5);
        Check.same("the first bytes", x.feed(0, 0, 0, 0, 0), 20);
        Edge.promise(1, "STATUS 0, the FRACTION 0 by 1");
        x = new BandPark();
        Check.same("status", x.status(), 0);
        Check.same("top", x.top(), 0);
        Check.same("bottom", x.bottom(), 1);
        Check.same("status", x.status(), 0);
    }

    private static void statusOfTheLatest() {
        Edge.promise(2, "The STATUS of the latest call that has one.");
        BandPark x = Edge.busy();
        x.many(15);
        Check.same("refused", x.status(), 5);
        Check.same("asked again", x.status(), 5);
        x.tune(9, 0);
        Check.same("refused otherwise", x.status(), 2);
        x.many(0);
        Check.same("answered", x.status(), 0);
        x.rain(x.many(9) == 1);
        Check.same("refused once more", x.status(), 9);
        x.wind(x.many(8) == 1 ? 2 : 1);
        Check.same("done", x.status(), 0);
        Edge.promise(2, "Where a number may be below 0, STATUS tells NONE from -1.");
        Check.told("read", x, x.read(0, 0), -1, 0);
        Check.told("read", x, x.read(0, 5), -1, 4);
        x = Check.made("park 2 by 1;fade 9;tune a loud 1 toll 0;band l at 0 0 strength 1 lips 0;band r at 1 0 strength 1 lips 0 plays a;");
        Check.told("game", x, x.game(0, 1, 0), -1, 0);
        Check.told("game", x, x.game(0, 0, 0), -1, 5);
    }

    private static void callsWithoutStatus() {
        Edge.promise(2, "status(), fault(), feed(), top(), bottom() have none.");
        BandPark x = Edge.busy();
        x.many(-1);
        x.fault(0);
        x.fault(7);
        Check.same("fault", x.status(), 5);
        x.feed(0, 0, 0, 0, 0);
        Check.same("feed", x.status(), 5);
        for (int i = 0; i < 45; i++) {
            x.feed(0, 0, 0, 0, 0);
        }
        Check.same("refused", x.feed(0, 0, 0, 0, 0), -1);
        Check.same("feed refused", x.status(), 5);
        x.top();
        x.bottom();
        Check.same("top, bottom", x.status(), 5);
        x = Edge.busy();
        x.many(0);
        for (int i = 0; i < 45; i++) {
            x.feed(0, 0, 0, 0, 0);
        }
        Check.same("feed refused behind an answer", x.status(), 0);
    }

    private static void fractions() {
        Edge.promise(3, "The top of the FRACTION told latest.");
        BandPark x = Check.made("park 4 by 1;fade 9;odds 6;pond 0 0;pond 1 0;pond 2 0;pond 3 0;tune a loud 1 toll 0;"
            + "band l at 0 0 strength 1 lips 0 plays a;band r at 1 0 strength 1 lips 0 plays a;");
        Check.flag("ponds", x, x.ponds(0), 0);
        Check.same("a quarter", x.top(), 1);
        x.wet(1, 1);
        Check.same("6 of 16", x.top(), 3);
        x.wet(1, 13);
        x.ponds(2);
        x.mean(0, 0, 1);
        Check.same("refused calls leave it", x.top(), 3);
        x.mark();
        x.wet(1, 0);
        x.back();
        Check.same("it is not taken back", x.top(), 1);
        x.rule(6, 15);
        x.wet(12, 12);
        Check.same("the greatest", x.top(), 129746337890625L);
        Check.park(x, "");
        Check.same("another park leaves it", x.top(), 129746337890625L);
        Edge.promise(4, "Its bottom, above 0.");
        Check.same("16 to the 12th", x.bottom(), 1L << 48);
        Edge.promise(4, "without a common divisor, the bottom above 0; 0 is 0 by 1.");
        x = Check.made("park 4 by 1;fade 9;odds 0;pond 0 0;pond 1 0;pond 2 0;pond 3 0;tune a loud 1 toll 0;"
            + "band l at 0 0 strength 1 lips 0 plays a;band r at 1 0 strength 1 lips 0;");
        Check.flag("0 of 4", x, x.ponds(1), 0);
        Check.same("0 by 1", x.top() * 10 + x.bottom(), 1);
        Check.flag("1 of 4", x, x.ponds(0), 0);
        Check.same("1 by 4", x.top() * 10 + x.bottom(), 14);
        Check.flag("never", x, x.wet(12, 1), 0);
        Check.same("0 by 1", x.top() * 10 + x.bottom(), 1);
        x.dig(1, 0, false);
        x.dig(2, 0, false);
        x.dig(3, 0, false);
        Check.flag("1 of 1", x, x.ponds(0), 0);
        Check.same("1 by 1", x.top() * 10 + x.bottom(), 11);
    }

    private static void trayLengths() {
        Edge.promise(5, "A TRAY is a row of so many numbers (at most 60; 5), all 0 (1; 5; 6).");
        Edge.not("61", 5, x -> x.tray(0, 0, 61));
        Edge.not("61 of one that is missing", 5, x -> x.tray(3, 0, 61));
        Edge.not("the greatest", 5, x -> x.tray(0, 0, Edge.MAX));
        BandPark x = new BandPark();
        Check.flag("60", x, x.tray(3, 3, 60), 0);
        for (int place = 0; place < 60; place++) {
            Check.told("all 0", x, x.read(3, place), 0, 0);
        }
        Check.no("60 and no more", x, x.read(3, 60), 4);
        Check.flag("0", x, x.tray(2, 0, 0), 0);
        Check.no("a row of none has no place", x, x.read(2, 0), 4);
        Check.flag("1", x, x.tray(1, 0, 1), 0);
        Check.told("a row of one", x, x.read(1, 0), 0, 0);
        Check.no("a row of one", x, x.read(1, 1), 4);
        Edge.promise(5, "6 below 0 (a TRAY's length).");
        Edge.not("-1", 6, y -> y.tray(0, 0, -1));
        Edge.not("the least", 6, y -> y.tray(0, 0, Edge.MIN));
    }

    private static void traySorts() {
        Edge.promise(5, "1 no such TRAY (or sort).");
        for (int no : Edge.NO_NUMBERS) {
            Edge.not("tray", 1, x -> x.tray(no, 0, 1));
            Edge.not("sort", 1, x -> x.tray(0, no, 1));
        }
        Edge.not("tray 4", 1, x -> x.tray(4, 0, 1));
        Edge.not("sort 4", 1, x -> x.tray(0, 4, 1));
        Edge.not("1 ahead of 5", 1, x -> x.tray(4, 0, 61));
        Edge.not("1 ahead of 6", 1, x -> x.tray(4, 0, -1));
        Edge.not("sort, 1 ahead of 5", 1, x -> x.tray(0, 4, 61));
        Edge.not("sort, 1 ahead of 6", 1, x -> x.tray(0, -1, -1));
        Edge.promise(5, "TRAYS, 0 to 3, are MISSING at first, or rows of numbers");
        for (int tray = 0; tray < 4; tray++) {
            for (int sort = 0; sort < 4; sort++) {
                BandPark x = new BandPark();
                Check.flag("laid", x, x.tray(tray, sort, 2), 0);
                for (int other = 0; other < 4; other++) {
                    Check.told("it alone", x, x.read(other, 1), other == tray ? 0 : -1, other == tray ? 0 : 3);
                }
            }
        }
    }

    private static void trayLaidAgain() {
        Edge.promise(5, "all 0 (1; 5; 6).");
        BandPark x = Edge.busy();
        Check.flag("laid again, alike", x, x.tray(0, 0, 5), 0);
        Check.told("all 0", x, x.read(0, 0), 0, 0);
        Check.told("all 0", x, x.read(0, 4), 0, 0);
        Check.flag("longer", x, x.tray(1, 3, 4), 0);
        Check.told("all 0", x, x.read(1, 1), 0, 0);
        Check.told("all 0", x, x.read(1, 3), 0, 0);
        Check.flag("shorter", x, x.tray(2, 0, 1), 0);
        Check.no("the places are gone", x, x.read(2, 1), 4);
        Check.flag("longer again", x, x.tray(2, 1, 30), 0);
        Check.told("what was there is gone", x, x.read(2, 24), 0, 0);
        x.write(2, 0, 255);
        Check.told("of the new sort", x, x.read(2, 0), 255, 0);
        x.tray(3, 3, 60);
        for (int place = 0; place < 60; place++) {
            x.write(3, place, place + 1);
        }
        Check.flag("60 again", x, x.tray(3, 3, 60), 0);
        for (int place = 0; place < 60; place++) {
            Check.told("all 0 to the last", x, x.read(3, place), 0, 0);
        }
    }

    private static void writes() {
        Edge.promise(6, "A number comes to a place of a TRAY (1; 3; 4).");
        for (int no : Edge.NO_NUMBERS) {
            Edge.not("tray", 1, x -> x.write(no, 0, 9));
            Edge.not("place", 4, x -> x.write(0, no, 9));
        }
        Edge.not("tray 4, ahead of 4", 1, x -> x.write(4, 99, 9));
        Edge.not("missing", 3, x -> x.write(3, 0, 9));
        Edge.not("missing, ahead of 4", 3, x -> x.write(3, -1, 9));
        Edge.not("just behind", 4, x -> x.write(0, 5, 9));
        Edge.not("behind a short one, within a long one", 4, x -> x.write(1, 3, 9));
        BandPark x = Edge.busy();
        Check.flag("the first", x, x.write(2, 0, 8), 0);
        Check.flag("the last", x, x.write(2, 29, 9), 0);
        Check.told("the first", x, x.read(2, 0), 8, 0);
        Check.told("the last", x, x.read(2, 29), 9, 0);
        Check.told("beside the last", x, x.read(2, 28), 0, 0);
        x.tray(3, 2, 0);
        Check.flag("a row of none", x, x.write(3, 0, 1), 4);
        x.tray(3, 2, 60);
        Check.flag("59", x, x.write(3, 59, 1), 0);
        Check.flag("60", x, x.write(3, 60, 1), 4);
    }

    private static void cut(int sort, long v, long want) {
        BandPark x = new BandPark();
        x.tray(0, sort, 1);
        Check.flag("write", x, x.write(0, 0, v), 0);
        Check.told(v + " of sort " + sort, x, x.read(0, 0), want, 0);
    }

    private static void cuts() {
        Edge.promise(6, "with sign; what is written is cut to these.");
        for (int sort = 0; sort < 4; sort++) {
            long half = 1L << (8 << sort) - 1;
            cut(sort, half - 1, half - 1);
            cut(sort, -half, -half);
            cut(sort, half, -half);
            cut(sort, -half - 1, half - 1);
            cut(sort, 2 * half - 1, -1);
            cut(sort, 2 * half, 0);
            cut(sort, 0, 0);
            cut(sort, -1, -1);
            cut(sort, Long.MAX_VALUE, sort == 3 ? Long.MAX_VALUE : -1);
            cut(sort, Long.MIN_VALUE, sort == 3 ? Long.MIN_VALUE : 0);
        }
    }

    private static void reads() {
        Edge.promise(7, "The number in a place of a TRAY; STATUS tells NONE from -1 (1; 3; 4).");
        for (int no : Edge.NO_NUMBERS) {
            Edge.no("tray", 1, x -> x.read(no, 0));
            Edge.no("place", 4, x -> x.read(0, no));
        }
        Edge.no("tray 4, ahead of 4", 1, x -> x.read(4, 99));
        Edge.no("missing", 3, x -> x.read(3, 0));
        Edge.no("missing, ahead of 4", 3, x -> x.read(3, -1));
        Edge.no("just behind", 4, x -> x.read(0, 5));
        Edge.no("behind a short one, within a long one", 4, x -> x.read(1, 3));
        Edge.asks("the first, -1", x -> x.read(0, 0));
        Edge.asks("the last", x -> x.read(0, 4));
        BandPark x = Edge.busy();
        Check.told("-1", x, x.read(0, 0), -1, 0);
        Check.told("NONE", x, x.read(0, 5), -1, 4);
        Check.told("the last", x, x.read(0, 4), 77, 0);
        Check.told("64 bits", x, x.read(1, 1), Long.MIN_VALUE, 0);
    }

    /** In a busy park 0 and 2 are of one sort, with 5 and 30 numbers; 1 is of another; 3 is missing. */
    private static void poursRefused() {
        Edge.promise(8, "1, 3 (either), 11, 6, 4, asked in this order.");
        for (int no : Edge.NO_NUMBERS) {
            Edge.not("from no tray", 1, x -> x.pour(no, 0, 0, 0, 1));
            Edge.not("to no tray", 1, x -> x.pour(0, 0, no, 0, 1));
            Edge.not("from no place", 4, x -> x.pour(0, no, 2, 0, 1));
            Edge.not("to no place", 4, x -> x.pour(0, 0, 2, no, 1));
            Edge.not("from no place, none", 4, x -> x.pour(0, no, 2, 0, 0));
            Edge.not("so many", no < 0 ? 6 : 4, x -> x.pour(0, 0, 2, 0, no));
            Edge.not("so many from elsewhere", no < 0 ? 6 : 4, x -> x.pour(0, 1, 2, 1, no));
            Edge.not("all of it", no < 0 ? 6 : 4, x -> x.pour(0, no, 2, no, no));
        }
        Edge.not("from tray 4", 1, x -> x.pour(4, 0, 0, 0, 1));
        Edge.not("to tray 4", 1, x -> x.pour(0, 0, 4, 0, 1));
        Edge.not("from a missing one", 3, x -> x.pour(3, 0, 0, 0, 1));
        Edge.not("to a missing one", 3, x -> x.pour(0, 0, 3, 0, 1));
        Edge.not("a missing one, to itself", 3, x -> x.pour(3, 0, 3, 0, 0));
        Edge.not("unlike", 11, x -> x.pour(0, 0, 1, 0, 1));
        Edge.not("unlike, none", 11, x -> x.pour(1, 0, 0, 0, 0));
        Edge.not("from just behind", 4, x -> x.pour(0, 5, 2, 0, 1));
        Edge.not("to just behind", 4, x -> x.pour(0, 0, 2, 30, 1));
        Edge.not("one more than there are", 4, x -> x.pour(0, 0, 2, 0, 6));
        Edge.not("one more than there are from 4 on", 4, x -> x.pour(0, 4, 2, 0, 2));
        Edge.not("one more than there is room", 4, x -> x.pour(2, 0, 0, 0, 6));
        Edge.not("one more than there is room from 4 on", 4, x -> x.pour(2, 0, 0, 4, 2));
        Edge.not("one too many within itself", 4, x -> x.pour(0, 0, 0, 1, 5));
        Edge.not("61", 4, x -> x.pour(2, 0, 2, 0, 61));
    }

    private static void poursInOrder() {
        Edge.promise(8, "asked in this order.");
        Edge.not("1 ahead of 3", 1, x -> x.pour(3, 0, 4, 0, 1));
        Edge.not("1 ahead of 3", 1, x -> x.pour(-1, 0, 3, 0, 1));
        Edge.not("1 ahead of 6", 1, x -> x.pour(0, 0, 4, 0, -1));
        Edge.not("1 ahead of 4", 1, x -> x.pour(4, 0, 0, 99, 1));
        Edge.not("3 ahead of 11", 3, x -> x.pour(1, 0, 3, 0, 1));
        Edge.not("3 ahead of 6", 3, x -> x.pour(3, 0, 0, 0, -1));
        Edge.not("3 ahead of 4", 3, x -> x.pour(0, 99, 3, 0, 1));
        Edge.not("11 ahead of 6", 11, x -> x.pour(0, 0, 1, 0, -1));
        Edge.not("11 ahead of 4", 11, x -> x.pour(0, -1, 1, 99, 99));
        Edge.not("6 ahead of 4", 6, x -> x.pour(0, -1, 2, 99, -1));
    }

    private static long row(BandPark x, int tray, int many) {
        long row = 0;
        for (int i = 0; i < many; i++) {
            row = row * 10 + x.read(tray, i);
        }
        return row;
    }

    private static BandPark counted() {
        BandPark x = new BandPark();
        x.tray(0, 2, 5);
        x.tray(1, 2, 7);
        for (int i = 0; i < 5; i++) {
            x.write(0, i, i + 1);
        }
        return x;
    }

    private static void pours() {
        Edge.promise(8, "from place i on of a TRAY come to place j on of another one, or the same, as they were");
        BandPark x = counted();
        Check.flag("all", x, x.pour(0, 0, 1, 0, 5), 0);
        Check.same("all", row(x, 1, 7), 1234500);
        Check.same("they are still there", row(x, 0, 5), 12345);
        Check.flag("to the last place", x, x.pour(0, 4, 1, 6, 1), 0);
        Check.same("to the last place", row(x, 1, 7), 1234505);
        Check.flag("onto themselves", x, x.pour(0, 0, 0, 0, 5), 0);
        Check.same("onto themselves", row(x, 0, 5), 12345);
        Check.flag("one place on", x, x.pour(0, 0, 0, 1, 4), 0);
        Check.same("one place on", row(x, 0, 5), 11234);
        x = counted();
        Check.flag("two places back", x, x.pour(0, 2, 0, 0, 3), 0);
        Check.same("two places back", row(x, 0, 5), 34545);
        x = counted();
        Check.flag("none", x, x.pour(0, 0, 1, 0, 0), 0);
        Check.flag("none from just behind to just behind", x, x.pour(0, 5, 1, 7, 0), 0);
        Check.same("none", row(x, 1, 7), 0);
        x.tray(2, 3, 60);
        x.tray(3, 3, 60);
        x.write(2, 0, Long.MIN_VALUE);
        x.write(2, 59, Long.MAX_VALUE);
        Check.flag("60", x, x.pour(2, 0, 3, 0, 60), 0);
        Check.told("the first of 60", x, x.read(3, 0), Long.MIN_VALUE, 0);
        Check.told("the last of 60", x, x.read(3, 59), Long.MAX_VALUE, 0);
        x.tray(2, 3, 0);
        Check.flag("none of none", x, x.pour(2, 0, 2, 0, 0), 0);
    }
}
