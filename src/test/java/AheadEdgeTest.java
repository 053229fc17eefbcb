/** Edges of promises 35 to 39: HOURS ahead. */
public final class AheadEdgeTest {
    /** One cell; the band has the lips for one hour in three, as often as lips are told. */
    private static final String THIRDS = "park 1 by 1;rest 0;tune a loud 1 toll 1;tune z loud 1 toll 0;band b at 0 0 strength 1 lips 99 plays a z z;";

    public static void main(String[] args) throws Exception {
        Edge.begin(args);
        refused();
        nothingChanges();
        holderIn();
        pointsIn();
        lipsIn();
        sameWindAndRain();
        beyondTheLastHour();
        tiredIn();
        tiredFirst();
        changesIn();
        changesOfNobody();
        Edge.end(35, 39);
    }

    private static void refused() {
        Edge.promise(35, "Who HOLDS a CELL in so many HOURS (0 to 200) (2; 5; 8: SILENT; 9: a BLUR).");
        for (int no : Edge.NO_NUMBERS) {
            Edge.no("column", 2, x -> x.holderIn(no, 0, 0));
            Edge.no("row", 2, x -> x.holderIn(0, no, 0));
            Edge.no("hours", 5, x -> x.holderIn(0, 0, no));
            Edge.no("2 ahead of 5", 2, x -> x.holderIn(no, 0, no));
        }
        Edge.no("WIDE", 2, x -> x.holderIn(4, 0, 0));
        Edge.no("DEEP", 2, x -> x.holderIn(0, 3, 0));
        Edge.no("201", 5, x -> x.holderIn(0, 0, 201));
        Edge.promise(36, "POINTS of a BAND in so many HOURS (0 to 200) (2; 5).");
        for (int no : Edge.NO_NUMBERS) {
            Edge.no("band", 2, x -> x.pointsIn(no, 0));
            Edge.no("hours", 5, x -> x.pointsIn(0, no));
            Edge.no("2 ahead of 5", 2, x -> x.pointsIn(no, no));
        }
        Edge.no("one behind the last", 2, x -> x.pointsIn(3, 0));
        Edge.no("201", 5, x -> x.pointsIn(0, 201));
        Edge.promise(37, "LIPS of a BAND in so many HOURS (0 to 200) (2; 5).");
        for (int no : Edge.NO_NUMBERS) {
            Edge.no("band", 2, x -> x.lipsIn(no, 0));
            Edge.no("hours", 5, x -> x.lipsIn(0, no));
            Edge.no("2 ahead of 5", 2, x -> x.lipsIn(no, no));
        }
        Edge.no("one behind the last", 2, x -> x.lipsIn(3, 0));
        Edge.no("201", 5, x -> x.lipsIn(0, 201));
        Edge.promise(38, "a BAND is TIRED first (2; 8: in none).");
        for (int no : Edge.NO_NUMBERS) {
            Edge.no("band", 2, x -> x.tiredIn(no));
        }
        Edge.no("one behind the last", 2, x -> x.tiredIn(3));
        Edge.no("in none", 8, x -> x.tiredIn(2));
        Edge.promise(39, "a CELL is first HELD by another one than NOW (nobody, too) (2; 8: in none).");
        for (int no : Edge.NO_NUMBERS) {
            Edge.no("column", 2, x -> x.changesIn(no, 0));
            Edge.no("row", 2, x -> x.changesIn(0, no));
        }
        Edge.no("WIDE", 2, x -> x.changesIn(4, 0));
        Edge.no("DEEP", 2, x -> x.changesIn(0, 3));
    }

    private static void nothingChanges() {
        Edge.promise(35, "Who HOLDS a CELL in so many HOURS (0 to 200)");
        Edge.asks("holderIn 0", x -> x.holderIn(0, 0, 0));
        Edge.promise(36, "POINTS of a BAND in so many HOURS (0 to 200)");
        Edge.asks("pointsIn 200", x -> x.pointsIn(0, 200));
        Edge.promise(37, "LIPS of a BAND in so many HOURS (0 to 200)");
        Edge.asks("lipsIn 200", x -> x.lipsIn(0, 200));
        Edge.promise(38, "In how many HOURS (0 to 200) a BAND is TIRED first");
        Edge.asks("tiredIn", x -> x.tiredIn(0));
        Edge.promise(39, "In how many HOURS (0 to 200) a CELL is first HELD by another one than NOW");
        Edge.asks("changesIn", x -> x.changesIn(0, 0));
    }

    private static void holderIn() {
        Edge.promise(35, "(2; 5; 8: SILENT; 9: a BLUR).");
        BandPark x = Check.made("park 2 by 1;fade 0;rest 0;tune a loud 1 toll 1;tune z loud 1 toll 0;"
            + "band l at 0 0 strength 1 lips 9 plays z z hush;band r at 1 0 strength 1 lips 2 plays hush a a;");
        // hour 0: l; 1: both; 2: r; 3: l; 4: r has no lips left, so l; 5: silent
        int[] want = {0, -1, 1, 0, 0, -1};
        int[] status = {0, 9, 0, 0, 0, 8};
        for (int h = 0; h < 6; h++) {
            Check.told("in " + h, x, x.holderIn(0, 0, h), want[h], status[h]);
        }
        Check.told("in 0 it is now", x, x.holder(0, 0), 0, 0);
        Check.told("in 200, hour 2 of three: silent", x, x.holderIn(1, 0, 200), -1, 8);
        Check.told("in 199: l", x, x.holderIn(1, 0, 199), 0, 0);
        x.hour(1);
        Check.told("from hour 1 on", x, x.holderIn(0, 0, 1), 1, 0);
        Check.told("in 200: hour 201, place 0", x, x.holderIn(0, 0, 200), 0, 0);
    }

    private static void pointsIn() {
        Edge.promise(36, "POINTS of a BAND in so many HOURS (0 to 200)");
        BandPark x = Check.made("park 1 by 1;pond 0 0;tune z loud 1 toll 0;band b at 0 0 strength 1 lips 0 plays z hush;");
        Check.told("in 0", x, x.pointsIn(0, 0), 0, 0);
        Check.told("in 1", x, x.pointsIn(0, 1), 3, 0);
        Check.told("in 2", x, x.pointsIn(0, 2), 3, 0);
        Check.told("in 199", x, x.pointsIn(0, 199), 300, 0);
        Check.told("in 200", x, x.pointsIn(0, 200), 300, 0);
        x.hour(1);
        Check.told("in 0: those it has", x, x.pointsIn(0, 0), 3, 0);
        Check.told("in 1: no more", x, x.pointsIn(0, 1), 3, 0);
        Check.told("in 200", x, x.pointsIn(0, 200), 303, 0);
    }

    private static void lipsIn() {
        Edge.promise(37, "LIPS of a BAND in so many HOURS (0 to 200)");
        BandPark x = Check.made("park 1 by 1;rest 2;tune a loud 1 toll 3;band b at 0 0 strength 1 lips 7 plays a;");
        int[] want = {7, 4, 1, 3, 0, 2, 4, 1};
        for (int h = 0; h < want.length; h++) {
            Check.told("in " + h, x, x.lipsIn(0, h), want[h], 0);
        }
        // 4 1 3 0 2 come again each five hours from hour 1 on
        Check.told("in 200", x, x.lipsIn(0, 200), 2, 0);
        x.soothe(0, 6);
        x.set(0, 0, 6);
        Check.told("as many as were told at most", x, x.lipsIn(0, 1), 7, 0);
        Check.told("as many as were told at most", x, x.lipsIn(0, 200), 7, 0);
        Check.told("in 0: those it has", x, x.lipsIn(0, 0), 6, 0);
    }

    private static void sameWindAndRain() {
        Edge.promise(36, "All ahead is by the same WIND and rain");
        BandPark x = Check.made("park 3 by 1;fade 1;tune z loud 3 toll 0;band b at 1 0 strength 0 lips 0 plays z;");
        Check.told("3 at most, 2 on each side", x, x.pointsIn(0, 10), 30, 0);
        x.rain(true);
        Check.told("1, 0 on each side", x, x.pointsIn(0, 10), 10, 0);
        x.wind(0);
        Check.told("1, 1 on one side", x, x.pointsIn(0, 10), 20, 0);
        Check.told("with the wind", x, x.holderIn(2, 0, 200), 0, 0);
        Check.no("against it", x, x.holderIn(0, 0, 200), 8);
        Check.evenings(x, "calm;dry;");
        Check.told("evenings are not lived", x, x.pointsIn(0, 10), 20, 0);
    }

    private static void beyondTheLastHour() {
        Edge.promise(35, "(HOUR 9,999 does not matter)");
        BandPark x = Check.made(THIRDS);
        for (int i = 0; i < 101; i++) {
            x.hour(99);
        }
        // hour 9,999 is place 0: a is played with the last lips in hour 9,999, then in none
        x.soothe(0, 1);
        x.set(0, 2, 6);
        Check.told("in 0", x, x.holderIn(0, 0, 0), 0, 0);
        Check.told("in 1", x, x.holderIn(0, 0, 1), 0, 0);
        Check.no("in 2: hush", x, x.holderIn(0, 0, 2), 8);
        Check.no("in 3: tired", x, x.holderIn(0, 0, 3), 8);
        Check.told("in 199: place 1", x, x.holderIn(0, 0, 199), 0, 0);
        Check.no("in 200: place 2", x, x.holderIn(0, 0, 200), 8);
        Edge.promise(36, "(HOUR 9,999 does not matter)");
        int now = x.band(0, 5);
        Check.told("two hours", x, x.pointsIn(0, 3), now + 2, 0);
        Check.told("67 of z, 1 of a", x, x.pointsIn(0, 200), now + 68, 0);
        Edge.promise(37, "(HOUR 9,999 does not matter)");
        Check.told("in 1", x, x.lipsIn(0, 1), 0, 0);
        Edge.promise(38, "(HOUR 9,999 does not matter)");
        Check.told("in 3", x, x.tiredIn(0), 3, 0);
        Edge.promise(39, "(HOUR 9,999 does not matter)");
        Check.told("in 2", x, x.changesIn(0, 0), 2, 0);
        Check.told("the hour stays", x, x.many(7), 9999, 0);
    }

    private static void tiredIn() {
        Edge.promise(38, "In how many HOURS (0 to 200) a BAND is TIRED first (2; 8: in none).");
        BandPark x = Check.made(THIRDS);
        x.soothe(0, 0);
        Check.told("0: now", x, x.tiredIn(0), 0, 0);
        x.soothe(0, 1);
        Check.told("3", x, x.tiredIn(0), 3, 0);
        x.soothe(0, 66);
        Check.told("198", x, x.tiredIn(0), 198, 0);
        x.soothe(0, 67);
        Check.no("201", x, x.tiredIn(0), 8);
        x.soothe(0, 99);
        Check.no("never within 200", x, x.tiredIn(0), 8);
        x.hour(1);
        x.soothe(0, 66);
        Check.told("200", x, x.tiredIn(0), 200, 0);
        x.soothe(0, 67);
        Check.no("203", x, x.tiredIn(0), 8);
        x.hour(1);
        x.soothe(0, 66);
        Check.told("199", x, x.tiredIn(0), 199, 0);
    }

    private static void tiredFirst() {
        Edge.promise(38, "a BAND is TIRED first");
        BandPark x = Check.made("park 1 by 1;rest 1;tune a loud 1 toll 3;tune z loud 1 toll 0;band b at 0 0 strength 1 lips 4 plays a;");
        // 4, 1: tired
        Check.told("1", x, x.tiredIn(0), 1, 0);
        x.hour(1);
        Check.told("tired now", x, x.tiredIn(0), 0, 0);
        x.set(0, 0, 1);
        Check.no("toll 0 tires none", x, x.tiredIn(0), 8);
        x.set(0, 0, 6);
        Check.no("hush tires none", x, x.tiredIn(0), 8);
        x.drop(0);
        Check.no("no programme", x, x.tiredIn(0), 8);
        x.set(0, 0, 0);
        x.rule(5, 3);
        x.soothe(0, 3);
        // 3, 0: tired, 3, 0
        Check.told("1", x, x.tiredIn(0), 1, 0);
        x.set(0, 1, 6);
        // at hour 1 hush comes first, so that there are always lips enough in hours 2, 4 ..
        Check.no("rests in time", x, x.tiredIn(0), 8);
        x = Check.made("park 6 by 1;rest 0;tune a loud 1 toll 1;band ba at 0 0 strength 1 lips 5 plays a;band bb at 1 0 strength 1 lips 4 plays a;"
            + "band bc at 2 0 strength 1 lips 3 plays a;band bd at 3 0 strength 1 lips 2 plays a;band be at 4 0 strength 1 lips 1 plays a;"
            + "band bf at 5 0 strength 1 lips 0 plays a;");
        for (int b = 0; b < 6; b++) {
            Check.told("the band that is asked for", x, x.tiredIn(b), 5 - b, 0);
        }
        for (int b = 0; b < 6; b++) {
            x.set(b, 0, 6);
            Check.no("it alone", x, x.tiredIn(b), 8);
        }
    }

    private static void changesIn() {
        Edge.promise(39, "In how many HOURS (0 to 200) a CELL is first HELD by another one than NOW");
        BandPark x = Check.made(THIRDS);
        x.soothe(0, 66);
        Check.told("198: tired", x, x.changesIn(0, 0), 198, 0);
        x.soothe(0, 67);
        Check.no("201", x, x.changesIn(0, 0), 8);
        x.hour(1);
        x.soothe(0, 66);
        Check.told("200", x, x.changesIn(0, 0), 200, 0);
        x.soothe(0, 67);
        Check.no("203", x, x.changesIn(0, 0), 8);
        x = Check.made("park 2 by 1;fade 0;tune z loud 1 toll 0;tune y loud 2 toll 0;band l at 0 0 strength 1 lips 0 plays z z y;"
            + "band r at 1 0 strength 1 lips 0 plays hush y hush;");
        // l, r, l, l, r ..
        Check.told("another one", x, x.changesIn(0, 0), 1, 0);
        x.hour(1);
        Check.told("back", x, x.changesIn(0, 0), 1, 0);
        x.hour(1);
        Check.told("l twice", x, x.changesIn(1, 0), 2, 0);
        x.set(1, 1, 6);
        Check.no("l always", x, x.changesIn(1, 0), 8);
    }

    private static void changesOfNobody() {
        Edge.promise(39, "(nobody, too)");
        BandPark x = Check.made("park 2 by 1;fade 0;tune z loud 1 toll 0;band l at 0 0 strength 1 lips 0 plays z z z hush;"
            + "band r at 1 0 strength 1 lips 0 plays hush hush z hush;");
        // l, l, a blur, silent
        Check.told("to a blur", x, x.changesIn(0, 0), 2, 0);
        x.hour(2);
        Check.told("from a blur past silence to l", x, x.changesIn(0, 0), 2, 0);
        x.hour(1);
        Check.told("from silence to l", x, x.changesIn(0, 0), 1, 0);
        x.set(1, 2, 6);
        x.hour(1);
        Check.told("to silence", x, x.changesIn(0, 0), 3, 0);
        x = Check.made("park 1 by 1;");
        Check.no("silent for ever", x, x.changesIn(0, 0), 8);
        // silent, a blur, l: nobody is nobody, be it for silence or for a blur
        x = Check.made("park 2 by 1;fade 0;tune z loud 1 toll 0;band l at 0 0 strength 1 lips 0 plays hush z z;"
            + "band r at 1 0 strength 1 lips 0 plays hush z hush;");
        Check.told("from silence past a blur to l", x, x.changesIn(0, 0), 2, 0);
        x.set(1, 2, 0);
        Check.no("silence and blurs alone", x, x.changesIn(0, 0), 8);
        x.set(0, 0, 0);
        x.set(1, 0, 0);
        Check.no("a blur for ever", x, x.changesIn(1, 0), 8);
    }
}
