/**
 * A park governed by bandstands: bands play programmes of tunes, hold the lawns where they are
 * heard most, tire and earn points. The document ../shared/DOC.md numbers what is promised.
 */
public final class BandPark {
    public static final int NONE = -1;

    private static final int HUSH = 6;
    private static final int CALM = 4;
    private static final int SILENT = -1;
    private static final int BLUR = -2;

    private static final int MOST_WIDE = 6;
    private static final int MOST_DEEP = 5;
    private static final int MOST_CELLS = 30;
    private static final int MOST_TUNES = 6;
    private static final int MOST_BANDS = 6;
    private static final int MOST_ENTRIES = 6;
    private static final int MOST_FADE = 9;
    private static final int MOST_REST = 9;
    private static final int MOST_ODDS = 16;
    private static final int MOST_LOUD = 20;
    private static final int MOST_TOLL = 9;
    private static final int MOST_BEATS = 99;
    private static final int MOST_STRENGTH = 20;
    private static final int MOST_LIPS = 99;
    private static final int MOST_HOUR = 9999;
    private static final int MOST_SEED = 9999;
    private static final int MOST_AHEAD = 200;
    private static final int MOST_TRAYS = 4;
    private static final int MOST_NUMBERS = 60;
    private static final int MOST_TAPE = 900;
    private static final int MOST_EVENINGS = 300;
    private static final int MOST_STEPS = 30;
    private static final int MOST_WITHIN = 3;
    private static final int MOST_DONE = 300;
    private static final int MOST_MARKS = 3;
    private static final int MOST_HOLDING = 4;
    private static final int MOST_TURNS = 3;
    private static final int MOST_PLAYED = 24;
    private static final int MOST_WET = 12;
    private static final int TALLIES = 5;

    private static final int NO_TRAY = 1;
    private static final int NO_THING = 2;
    private static final int TRAY_MISSING = 3;
    private static final int NO_PLACE = 4;
    private static final int NO_NUMBER = 5;
    private static final int BELOW_ZERO = 6;
    private static final int ONE_TOO_MANY = 7;
    private static final int THERE_IS_NONE = 8;
    private static final int CANNOT_BE = 9;
    private static final int HAS_FAULT = 10;
    private static final int UNLIKE_SORTS = 11;

    /** The words that are no names; the numbers below tell their places in this row. */
    private static final String KEYWORDS =
        "park by fade rest odds pond tune loud toll beats band at strength lips plays hush hour wind calm rain dry set any when holds tired raining loop end stop ";
    private static final int MANY_KEYWORDS = 30;
    private static final int W_PARK = 0;
    private static final int W_BY = 1;
    private static final int W_FADE = 2;
    private static final int W_REST = 3;
    private static final int W_ODDS = 4;
    private static final int W_POND = 5;
    private static final int W_TUNE = 6;
    private static final int W_LOUD = 7;
    private static final int W_TOLL = 8;
    private static final int W_BEATS = 9;
    private static final int W_BAND = 10;
    private static final int W_AT = 11;
    private static final int W_STRENGTH = 12;
    private static final int W_LIPS = 13;
    private static final int W_PLAYS = 14;
    private static final int W_HUSH = 15;
    private static final int W_HOUR = 16;
    private static final int W_WIND = 17;
    private static final int W_CALM = 18;
    private static final int W_RAIN = 19;
    private static final int W_DRY = 20;
    private static final int W_SET = 21;
    private static final int W_ANY = 22;
    private static final int W_WHEN = 23;
    private static final int W_HOLDS = 24;
    private static final int W_TIRED = 25;
    private static final int W_RAINING = 26;
    private static final int W_LOOP = 27;
    private static final int W_END = 28;
    private static final int W_STOP = 29;

    private final Tray[] trays = new Tray[MOST_TRAYS];
    private final Tape tape = new Tape();
    private final Stage now = new Stage();
    private final ParkReader parkReader = new ParkReader(tape);
    private final EveningsReader eveningsReader = new EveningsReader(tape, now.park);
    private final Stage ahead = new Stage();
    private final Search search = new Search();
    private final Park[] marks = new Park[MOST_MARKS];
    private final int[] tallies = new int[TALLIES];
    private boolean hasLived = false;
    private int marked = 0;
    private int status = 0;
    private int faultKind = NONE;
    private int faultPlace = NONE;
    private long top = 0;
    private long bottom = 1;

    public BandPark() {
        for (int i = 0; i < MOST_TRAYS; i++) {
            trays[i] = new Tray();
        }
        for (int i = 0; i < MOST_MARKS; i++) {
            marks[i] = new Park();
        }
    }

    public int status() {
        return status;
    }

    public long top() {
        return top;
    }

    public long bottom() {
        return bottom;
    }

    // ---- TRAYS

    public boolean tray(int tray, int sort, int many) {
        if (!isTray(tray) || sort < 0 || sort > 3) {
            return refuse(NO_TRAY);
        }
        if (many > MOST_NUMBERS) {
            return refuse(NO_NUMBER);
        }
        if (many < 0) {
            return refuse(BELOW_ZERO);
        }
        trays[tray].lay(sort, many);
        return agree();
    }

    public boolean write(int tray, int place, long v) {
        int wrong = wrongPlace(tray, place);
        if (wrong != 0) {
            return refuse(wrong);
        }
        trays[tray].put(place, v);
        return agree();
    }

    public long read(int tray, int place) {
        int wrong = wrongPlace(tray, place);
        if (wrong != 0) {
            return no(wrong);
        }
        status = 0;
        return trays[tray].numberAt(place);
    }

    public boolean pour(int tray, int i, int to, int j, int many) {
        if (!isTray(tray) || !isTray(to)) {
            return refuse(NO_TRAY);
        }
        Tray from = trays[tray];
        Tray into = trays[to];
        if (!from.there || !into.there) {
            return refuse(TRAY_MISSING);
        }
        if (from.sort != into.sort) {
            return refuse(UNLIKE_SORTS);
        }
        if (many < 0) {
            return refuse(BELOW_ZERO);
        }
        if (!from.hasRow(i, many) || !into.hasRow(j, many)) {
            return refuse(NO_PLACE);
        }
        System.arraycopy(from.numbers, i, into.numbers, j, many);
        return agree();
    }

    // ---- texts

    public int feed(int a, int b, int c, int d, int e) {
        if (!tape.hasRoom(20)) {
            return NONE;
        }
        tape.append(a);
        tape.append(b);
        tape.append(c);
        tape.append(d);
        tape.append(e);
        return tape.filled;
    }

    public int park(int n) {
        if (n < 0 || n > tape.filled) {
            return no(NO_NUMBER);
        }
        boolean taken = parkReader.readPark(n);
        keepFault();
        if (!taken) {
            return no(HAS_FAULT);
        }
        now.park.takeFrom(parkReader.draft);
        return yes(now.park.bands);
    }

    public int evenings(int n) {
        if (n < 0 || n > tape.filled || n > MOST_EVENINGS) {
            return no(NO_NUMBER);
        }
        boolean taken = eveningsReader.readEvenings(n);
        keepFault();
        if (!taken) {
            return no(HAS_FAULT);
        }
        now.park.evenings.takeFrom(eveningsReader.draft);
        return yes(now.park.evenings.steps);
    }

    public int fault(int what) {
        if (what == 0) {
            return faultKind;
        }
        return what == 1 ? faultPlace : NONE;
    }

    public int many(int what) {
        Park park = now.park;
        switch (what) {
            case 0: return yes(park.wide);
            case 1: return yes(park.deep);
            case 2: return yes(park.tunes);
            case 3: return yes(park.bands);
            case 4: return yes(park.fade);
            case 5: return yes(park.rest);
            case 6: return yes(park.odds);
            case 7: return yes(park.hour);
            case 8: return yes(park.wind);
            case 9: return yes(park.raining ? 1 : 0);
            case 10: return yes(park.countPonds());
            case 11: return yes(now.countHeldBy(BLUR));
            case 12: return yes(now.countHeldBy(SILENT));
            case 13: return yes(now.playingSet());
            case 14: return yes(now.tiredSet());
            default: return no(NO_NUMBER);
        }
    }

    public int tune(int tune, int what) {
        if (!now.park.hasTune(tune)) {
            return no(NO_THING);
        }
        Tune it = now.park.tune[tune];
        switch (what) {
            case 0: return yes(it.loud);
            case 1: return yes(it.toll);
            case 2: return yes(it.beats);
            default: return no(NO_NUMBER);
        }
    }

    public int band(int band, int what) {
        if (!now.park.hasBand(band)) {
            return no(NO_THING);
        }
        Band it = now.park.band[band];
        switch (what) {
            case 0: return yes(it.column);
            case 1: return yes(it.row);
            case 2: return yes(it.strength);
            case 3: return yes(it.lips);
            case 4: return yes(it.most);
            case 5: return yes(it.points);
            case 6: return yes(it.entries);
            default: return no(NO_NUMBER);
        }
    }

    public int entry(int band, int k) {
        if (!now.park.hasBand(band)) {
            return no(NO_THING);
        }
        Band it = now.park.band[band];
        if (k < 0 || k >= it.entries) {
            return no(THERE_IS_NONE);
        }
        return yes(it.programme[k]);
    }

    public int pond(int column, int row) {
        int cell = now.park.cellAt(column, row);
        if (cell == NONE) {
            return no(NO_THING);
        }
        return yes(now.park.pond[cell] ? 1 : 0);
    }

    // ---- what is done

    public int hour(int hours) {
        if (hours < 1 || hours > 99) {
            return no(NO_NUMBER);
        }
        if (now.park.hour + hours > MOST_HOUR) {
            return no(ONE_TOO_MANY);
        }
        return yes(now.passHours(hours));
    }

    public boolean wind(int to) {
        if (to < 0 || to > CALM) {
            return refuse(NO_NUMBER);
        }
        if (!now.park.turnWind(to)) {
            return refuse(CANNOT_BE);
        }
        return agree();
    }

    public boolean rain(boolean is) {
        if (!now.park.turnRain(is)) {
            return refuse(CANNOT_BE);
        }
        return agree();
    }

    public int set(int band, int k, int tune) {
        if (!now.park.hasBand(band) || !now.park.hasEntry(tune)) {
            return no(NO_THING);
        }
        Band it = now.park.band[band];
        if (k < 0 || k >= MOST_ENTRIES || k > it.entries) {
            return no(NO_NUMBER);
        }
        it.programme[k] = tune;
        it.entries = Math.max(it.entries, k + 1);
        return yes(it.entries);
    }

    public int drop(int band) {
        if (!now.park.hasBand(band)) {
            return no(NO_THING);
        }
        Band it = now.park.band[band];
        if (it.entries == 0) {
            return no(THERE_IS_NONE);
        }
        it.entries--;
        return yes(it.entries);
    }

    public boolean move(int band, int column, int row) {
        if (!now.park.hasBand(band) || now.park.cellAt(column, row) == NONE) {
            return refuse(NO_THING);
        }
        if (now.park.bandIsAt(column, row)) {
            return refuse(CANNOT_BE);
        }
        now.park.placeBand(band, column, row);
        return agree();
    }

    public boolean train(int band, int strength) {
        if (!now.park.hasBand(band)) {
            return refuse(NO_THING);
        }
        if (strength < 0 || strength > MOST_STRENGTH) {
            return refuse(NO_NUMBER);
        }
        now.park.band[band].strength = strength;
        now.park.version++;
        return agree();
    }

    public boolean soothe(int band, int lips) {
        if (!now.park.hasBand(band)) {
            return refuse(NO_THING);
        }
        Band it = now.park.band[band];
        if (lips < 0 || lips > it.most) {
            return refuse(NO_NUMBER);
        }
        it.lips = lips;
        return agree();
    }

    public boolean rule(int what, int much) {
        if (!now.park.changeRule(what, much)) {
            return refuse(NO_NUMBER);
        }
        return agree();
    }

    public boolean dig(int column, int row, boolean is) {
        int cell = now.park.cellAt(column, row);
        if (cell == NONE) {
            return refuse(NO_THING);
        }
        if (now.park.pond[cell] == is) {
            return refuse(CANNOT_BE);
        }
        now.park.pond[cell] = is;
        now.park.version++;
        return agree();
    }

    // ---- NOW

    public int plays(int band) {
        if (!now.park.hasBand(band)) {
            return no(NO_THING);
        }
        return yes(now.playedBy(band));
    }

    public int heard(int band, int tune, int column, int row) {
        int cell = now.park.cellAt(column, row);
        if (!now.park.hasBand(band) || !now.park.hasEntry(tune) || cell == NONE) {
            return no(NO_THING);
        }
        return yes(now.levelAt(band, tune, cell));
    }

    public int loudest(int column, int row) {
        int cell = now.park.cellAt(column, row);
        if (cell == NONE) {
            return no(NO_THING);
        }
        return yes(now.loudestAt(cell));
    }

    public int holder(int column, int row) {
        int cell = now.park.cellAt(column, row);
        if (cell == NONE) {
            return no(NO_THING);
        }
        return tellHolder(now.holderAt(cell));
    }

    public int lawns(int band) {
        if (!now.park.hasBand(band)) {
            return no(NO_THING);
        }
        return yes(now.lawnsOf(band));
    }

    public boolean ponds(int band) {
        if (!now.park.hasBand(band)) {
            return refuse(NO_THING);
        }
        int all = now.park.countPonds();
        if (all == 0) {
            return refuse(THERE_IS_NONE);
        }
        return tellFraction(now.countPondsHeldBy(band), all);
    }

    public int copyHeld(int tray) {
        if (!isTray(tray)) {
            return no(NO_TRAY);
        }
        Tray into = trays[tray];
        if (!into.there) {
            return no(TRAY_MISSING);
        }
        int cells = now.park.countCells();
        if (into.length < cells) {
            return no(NO_PLACE);
        }
        for (int cell = 0; cell < cells; cell++) {
            into.put(cell, Math.max(now.holderAt(cell), NONE));
        }
        return yes(cells);
    }

    // ---- HOURS ahead

    public int holderIn(int column, int row, int hours) {
        int cell = now.park.cellAt(column, row);
        if (cell == NONE) {
            return no(NO_THING);
        }
        if (!isAhead(hours)) {
            return no(NO_NUMBER);
        }
        lookAhead(hours);
        return tellHolder(ahead.holderAt(cell));
    }

    public int pointsIn(int band, int hours) {
        if (!now.park.hasBand(band)) {
            return no(NO_THING);
        }
        if (!isAhead(hours)) {
            return no(NO_NUMBER);
        }
        lookAhead(hours);
        return yes(ahead.park.band[band].points);
    }

    public int lipsIn(int band, int hours) {
        if (!now.park.hasBand(band)) {
            return no(NO_THING);
        }
        if (!isAhead(hours)) {
            return no(NO_NUMBER);
        }
        lookAhead(hours);
        return yes(ahead.park.band[band].lips);
    }

    public int tiredIn(int band) {
        if (!now.park.hasBand(band)) {
            return no(NO_THING);
        }
        lookAhead(0);
        for (int hours = 0; hours <= MOST_AHEAD; hours++) {
            if ((ahead.tiredSet() >> band & 1) == 1) {
                return yes(hours);
            }
            ahead.passHours(1);
        }
        return no(THERE_IS_NONE);
    }

    public int changesIn(int column, int row) {
        int cell = now.park.cellAt(column, row);
        if (cell == NONE) {
            return no(NO_THING);
        }
        // a BLUR and SILENT are alike here: nobody holds the cell
        int first = Math.max(now.holderAt(cell), NONE);
        lookAhead(0);
        for (int hours = 1; hours <= MOST_AHEAD; hours++) {
            ahead.passHours(1);
            if (Math.max(ahead.holderAt(cell), NONE) != first) {
                return yes(hours);
            }
        }
        return no(THERE_IS_NONE);
    }

    // ---- tunes

    public int holding(int band, int column, int row, int n) {
        int wrong = wrongHolding(band, column, row, n);
        if (wrong != 0) {
            return no(wrong);
        }
        lookAhead(0);
        return yes(search.findHolding(ahead, band, now.park.cellAt(column, row), n));
    }

    public int holdingAt(int band, int column, int row, int n, int k) {
        int wrong = wrongHolding(band, column, row, n);
        if (wrong != 0) {
            return no(wrong);
        }
        if (k < 0 || k >= n) {
            return no(THERE_IS_NONE);
        }
        lookAhead(0);
        search.findHolding(ahead, band, now.park.cellAt(column, row), n);
        return yes(search.chosen[k]);
    }

    public int best(int band) {
        int wrong = wrongBest(band);
        if (wrong != 0) {
            return no(wrong);
        }
        return yes(search.findBest(now, band));
    }

    public int bestLawns(int band) {
        int wrong = wrongBest(band);
        if (wrong != 0) {
            return no(wrong);
        }
        return yes(search.lawnsWith(now, band, search.findBest(now, band)));
    }

    public int low(int band, int column, int row) {
        int cell = now.park.cellAt(column, row);
        if (!now.park.hasBand(band) || cell == NONE) {
            return no(NO_THING);
        }
        int toll = search.findLow(now, band, cell);
        return toll == NONE ? no(THERE_IS_NONE) : yes(toll);
    }

    public int game(int band, int other, int turns) {
        int wrong = wrongGame(band, other, turns);
        if (wrong != 0) {
            return no(wrong);
        }
        return yes(search.playGame(now, band, other, turns));
    }

    public int moveOf(int band, int other, int turns) {
        int wrong = wrongGame(band, other, turns);
        if (wrong == 0 && turns == 0) {
            wrong = NO_NUMBER;
        }
        if (wrong != 0) {
            return no(wrong);
        }
        int found = search.findMove(now, band, other, turns);
        return found == NONE ? no(THERE_IS_NONE) : yes(found);
    }

    public int ally(int bands) {
        if (!now.park.isBandSet(bands)) {
            return no(NO_NUMBER);
        }
        return yes(search.countAlly(now, bands));
    }

    public int stable(int bands) {
        if (bands == 0 || !now.park.isBandSet(bands)) {
            return no(NO_NUMBER);
        }
        return yes(search.isStable(now, bands) ? 1 : 0);
    }

    public int alliance() {
        int found = search.findAlliance(now);
        return found == NONE ? no(THERE_IS_NONE) : yes(found);
    }

    public int together(int tune, int late, int other, int otherLate) {
        if (!now.park.hasTune(tune) || !now.park.hasTune(other)) {
            return no(NO_THING);
        }
        if (!isLate(late) || !isLate(otherLate)) {
            return no(NO_NUMBER);
        }
        int beat = firstBeat(now.park.tune[tune].beats, late, now.park.tune[other].beats, otherLate);
        return beat == NONE ? no(THERE_IS_NONE) : yes(beat);
    }

    // ---- lips, ways, rain

    public int fits(int band, int tray, int n) {
        int wrong = wrongFits(band, tray, n);
        if (wrong != 0) {
            return no(wrong);
        }
        int found = 0;
        for (int lips = 0; lips <= now.park.band[band].most; lips++) {
            if (now.park.canHavePlayed(band, lips, trays[tray].numbers, n)) {
                found++;
            }
        }
        return yes(found);
    }

    public int fitsAt(int band, int tray, int n, int what) {
        int wrong = wrongFits(band, tray, n);
        if (wrong == 0 && what != 0 && what != 1) {
            wrong = NO_NUMBER;
        }
        if (wrong != 0) {
            return no(wrong);
        }
        int found = NONE;
        for (int lips = 0; lips <= now.park.band[band].most; lips++) {
            boolean asked = what == 1 || found == NONE;
            if (asked && now.park.canHavePlayed(band, lips, trays[tray].numbers, n)) {
                found = lips;
            }
        }
        return found == NONE ? no(THERE_IS_NONE) : yes(found);
    }

    public int quiet(int column, int row, int toColumn, int toRow) {
        int from = now.park.cellAt(column, row);
        int to = now.park.cellAt(toColumn, toRow);
        if (from == NONE || to == NONE) {
            return no(NO_THING);
        }
        return yes(search.findQuiet(now, from, to));
    }

    public int quietSteps(int column, int row, int toColumn, int toRow) {
        int from = now.park.cellAt(column, row);
        int to = now.park.cellAt(toColumn, toRow);
        if (from == NONE || to == NONE) {
            return no(NO_THING);
        }
        int level = search.findQuiet(now, from, to);
        return yes(search.countSteps(now.park, from, to, level));
    }

    public boolean wet(int n, int k) {
        if (n < 0 || n > MOST_WET || k < 0 || k > MOST_WET) {
            return refuse(NO_NUMBER);
        }
        long ways = 0;
        for (int rainy = k; rainy <= n; rainy++) {
            long each = power(now.park.odds, rainy) * power(MOST_ODDS - now.park.odds, n - rainy);
            ways += choose(n, rainy) * each;
        }
        return tellFraction(ways, power(MOST_ODDS, n));
    }

    // ---- EVENINGS

    public int live(int seed) {
        if (seed < 0 || seed > MOST_SEED) {
            return no(NO_NUMBER);
        }
        if (!now.park.evenings.there) {
            return no(THERE_IS_NONE);
        }
        now.beginEvenings(seed);
        Stage.doSteps(now, 0, now.park.evenings.steps, 0);
        now.copyTallies(tallies);
        hasLived = true;
        return yes(now.done);
    }

    public int lived(int what) {
        if (what < 0 || what >= TALLIES) {
            return no(NO_NUMBER);
        }
        if (!hasLived) {
            return no(THERE_IS_NONE);
        }
        return yes(tallies[what]);
    }

    public boolean mean(int band, int seed, int many) {
        if (!now.park.hasBand(band)) {
            return refuse(NO_THING);
        }
        if (many < 1 || many > 20 || seed < 0 || seed > MOST_SEED - many + 1) {
            return refuse(NO_NUMBER);
        }
        if (!now.park.evenings.there) {
            return refuse(THERE_IS_NONE);
        }
        long points = 0;
        for (int i = 0; i < many; i++) {
            lookAhead(0);
            ahead.beginEvenings(seed + i);
            Stage.doSteps(ahead, 0, ahead.park.evenings.steps, 0);
            points += ahead.park.band[band].points;
        }
        return tellFraction(points, many);
    }

    // ---- MARKS

    public int mark() {
        if (marked >= MOST_MARKS) {
            return no(ONE_TOO_MANY);
        }
        marks[marked].takeFrom(now.park);
        marked++;
        return yes(marked);
    }

    public int back() {
        if (marked <= 0) {
            return no(THERE_IS_NONE);
        }
        marked--;
        now.park.takeFrom(marks[marked]);
        return yes(marked);
    }

    // ---- what the calls share

    private int yes(int answer) {
        status = 0;
        return answer;
    }

    private int no(int why) {
        status = why;
        return NONE;
    }

    private boolean agree() {
        status = 0;
        return true;
    }

    private boolean refuse(int why) {
        status = why;
        return false;
    }

    private int tellHolder(int who) {
        if (who == SILENT) {
            return no(THERE_IS_NONE);
        }
        return who == BLUR ? no(CANNOT_BE) : yes(who);
    }

    private boolean tellFraction(long above, long below) {
        long divisor = commonDivisor(above, below);
        if (divisor <= 0) {
            return refuse(CANNOT_BE);
        }
        top = above / divisor;
        bottom = below / divisor;
        return agree();
    }

    private void keepFault() {
        faultKind = tape.fault;
        faultPlace = tape.place;
        tape.filled = 0;
    }

    private void lookAhead(int hours) {
        ahead.park.takeFrom(now.park);
        ahead.passHours(hours);
    }

    private static boolean isTray(int tray) {
        return tray >= 0 && tray < MOST_TRAYS;
    }

    private static boolean isAhead(int hours) {
        return hours >= 0 && hours <= MOST_AHEAD;
    }

    private static boolean isLate(int beats) {
        return beats >= 0 && beats <= 99;
    }

    private int wrongPlace(int tray, int place) {
        if (!isTray(tray)) {
            return NO_TRAY;
        }
        if (!trays[tray].there) {
            return TRAY_MISSING;
        }
        return trays[tray].hasRow(place, 1) ? 0 : NO_PLACE;
    }

    private int wrongHolding(int band, int column, int row, int n) {
        if (!now.park.hasBand(band) || now.park.cellAt(column, row) == NONE) {
            return NO_THING;
        }
        return n < 1 || n > MOST_HOLDING ? NO_NUMBER : 0;
    }

    private int wrongBest(int band) {
        if (!now.park.hasBand(band)) {
            return NO_THING;
        }
        return now.park.tunes == 0 ? THERE_IS_NONE : 0;
    }

    private int wrongGame(int band, int other, int turns) {
        if (!now.park.hasBand(band) || !now.park.hasBand(other)) {
            return NO_THING;
        }
        return band == other || turns < 0 || turns > MOST_TURNS ? NO_NUMBER : 0;
    }

    private int wrongFits(int band, int tray, int n) {
        if (!isTray(tray)) {
            return NO_TRAY;
        }
        if (!now.park.hasBand(band)) {
            return NO_THING;
        }
        Tray it = trays[tray];
        if (!it.there) {
            return TRAY_MISSING;
        }
        if (n > it.length) {
            return NO_PLACE;
        }
        if (n < 0 || n > MOST_PLAYED) {
            return NO_NUMBER;
        }
        for (int i = 0; i < n; i++) {
            if (it.numbers[i] != 0 && it.numbers[i] != 1) {
                return NO_NUMBER;
            }
        }
        return 0;
    }

    private static int firstBeat(int beats, int late, int otherBeats, int otherLate) {
        if (otherBeats <= 0) {
            return NONE;
        }
        // behind both beginnings the bars repeat within otherBeats bars of the first tune
        for (int bar = 0; bar <= 2 * MOST_BEATS + 1; bar++) {
            int beat = late + bar * beats;
            if (beat >= otherLate && (beat - otherLate) % otherBeats == 0) {
                return beat;
            }
        }
        return NONE;
    }

    private static long power(long base, int times) {
        long product = 1;
        for (int i = 0; i < times; i++) {
            product *= base;
        }
        return product;
    }

    private static long choose(int n, int k) {
        long ways = 1;
        for (int i = 1; i <= k; i++) {
            ways = ways * (n - i + 1) / i;
        }
        return ways;
    }

    private static long commonDivisor(long a, long b) {
        long big = a;
        long small = b;
        // a long has fewer than 100 of Euclid's steps
        for (int i = 0; i < 100 && small != 0; i++) {
            long rest = big % small;
            big = small;
            small = rest;
        }
        return big;
    }

    /** A row of numbers that are cut to its sort; it is kept, there or not, to be laid again. */
    private static final class Tray {
        boolean there = false;
        int sort = 0;
        int length = 0;
        final long[] numbers = new long[MOST_NUMBERS];

        void lay(int newSort, int newLength) {
            there = true;
            sort = newSort;
            length = newLength;
            for (int i = 0; i < MOST_NUMBERS; i++) {
                numbers[i] = 0;
            }
        }

        boolean hasRow(int first, int many) {
            return first >= 0 && many >= 0 && first <= length - many;
        }

        void put(int place, long v) {
            if (hasRow(place, 1)) {
                numbers[place] = cut(v);
            }
        }

        long numberAt(int place) {
            return hasRow(place, 1) ? numbers[place] : NONE;
        }

        private long cut(long v) {
            switch (sort) {
                case 0: return (byte) v;
                case 1: return (short) v;
                case 2: return (int) v;
                default: return v;
            }
        }
    }

    /**
     * The tape, read token by token. The first fault along the text stays: behind it nothing
     * is read any more, so that readers need not look for faults at each step.
     */
    private static final class Tape {
        private static final int AT_END = 0;
        private static final int AT_WORD = 1;
        private static final int AT_NUMBER = 2;
        private static final int AT_SIGN = 3;
        private static final int AT_NOTHING = 4;

        final byte[] bytes = new byte[MOST_TAPE];
        int filled = 0;
        int fault = 0;
        int place = NONE;
        private final long[] keywords = new long[MANY_KEYWORDS];
        private int length = 0;
        private int next = 0;
        private int start = 0;
        private int kind = AT_END;
        private int keyword = NONE;
        private int number = 0;
        private long letters = 0;

        Tape() {
            int word = 0;
            for (int i = 0; i < KEYWORDS.length() && word < MANY_KEYWORDS; i++) {
                char c = KEYWORDS.charAt(i);
                if (c == ' ') {
                    word++;
                } else {
                    keywords[word] = keywords[word] * 32 + (c - 'a' + 1);
                }
            }
        }

        boolean hasRoom(int many) {
            return filled <= MOST_TAPE - many;
        }

        void append(int four) {
            if (hasRoom(4)) {
                for (int shift = 24; shift >= 0; shift -= 8) {
                    bytes[filled] = (byte) (four >> shift);
                    filled++;
                }
            }
        }

        void begin(int n) {
            length = Math.min(Math.max(n, 0), filled);
            next = 0;
            fault = 0;
            place = NONE;
            advance();
        }

        /** Goes to the next token, unless there was a fault. */
        void advance() {
            if (fault != 0) {
                return;
            }
            while (next < length && (bytes[next] == 10 || bytes[next] == 32)) {
                next++;
            }
            start = next;
            keyword = NONE;
            if (next >= length) {
                kind = AT_END;
            } else if (bytes[next] >= 'a' && bytes[next] <= 'z') {
                takeWord();
            } else if (bytes[next] >= '0' && bytes[next] <= '9') {
                takeNumber();
            } else {
                takeSign();
            }
        }

        private void takeWord() {
            kind = AT_WORD;
            letters = 0;
            while (next < length && bytes[next] >= 'a' && bytes[next] <= 'z') {
                // nine letters are as good as more: neither a name nor a keyword
                if (next - start < 9) {
                    letters = letters * 32 + (bytes[next] - 'a' + 1);
                }
                next++;
            }
            for (int i = 0; i < MANY_KEYWORDS; i++) {
                if (keywords[i] == letters) {
                    keyword = i;
                }
            }
        }

        private void takeNumber() {
            number = 0;
            while (next < length && bytes[next] >= '0' && bytes[next] <= '9') {
                if (next - start < 4) {
                    number = number * 10 + (bytes[next] - '0');
                }
                next++;
            }
            kind = next - start > 4 ? AT_NOTHING : AT_NUMBER;
        }

        private void takeSign() {
            byte c = bytes[next];
            kind = c == ';' || c == '<' || c == '>' || c == '=' ? AT_SIGN : AT_NOTHING;
            next++;
        }

        boolean goesOn() {
            return fault == 0 && kind != AT_END;
        }

        /** A fault at the token here; where no token begins it is kind 1, whatever was asked. */
        void blame(int why) {
            if (fault == 0) {
                fault = kind == AT_NOTHING ? 1 : why;
                place = start;
            }
        }

        int keywordHere() {
            return fault == 0 && kind == AT_WORD ? keyword : NONE;
        }

        boolean isSignHere(char sign) {
            return fault == 0 && kind == AT_SIGN && bytes[start] == sign;
        }

        void needWord(int word) {
            if (keywordHere() == word) {
                advance();
            } else {
                blame(2);
            }
        }

        void needEnd() {
            if (isSignHere(';')) {
                advance();
            } else {
                blame(2);
            }
        }

        int needNumber(int least, int most) {
            int found = numberHere(least, most);
            advance();
            return found;
        }

        int numberHere(int least, int most) {
            if (kind != AT_NUMBER) {
                blame(2);
            } else if (number < least || number > most) {
                blame(4);
            }
            return fault == 0 ? number : NONE;
        }

        /** The letters of a name here as one number, above 0. */
        long nameHere() {
            boolean isName = kind == AT_WORD && keyword == NONE && next - start <= 8;
            if (!isName) {
                blame(2);
            }
            return fault == 0 ? letters : NONE;
        }

        /** The sign here that compares, one of < > =. */
        int needCompares() {
            int sign = 0;
            if (isSignHere('<') || isSignHere('>') || isSignHere('=')) {
                sign = bytes[start];
            } else {
                blame(2);
            }
            advance();
            return sign;
        }

        int needEntry(Park park) {
            int found = entryHere(park);
            advance();
            return found;
        }

        /** The tune that is named here, or HUSH. */
        int entryHere(Park park) {
            if (keywordHere() == W_HUSH) {
                return HUSH;
            }
            int found = park.tuneNamed(nameHere());
            if (found == NONE) {
                blame(3);
            }
            return fault == 0 ? found : HUSH;
        }

        int needBand(Park park) {
            int found = park.bandNamed(nameHere());
            if (found == NONE) {
                blame(3);
            }
            advance();
            return found;
        }
    }

    /** Reads a PARK into a draft, so that the old one stays if there is a fault. */
    private static final class ParkReader {
        final Park draft = new Park();
        private final Tape tape;
        private int told = 0;

        ParkReader(Tape from) {
            tape = from;
        }

        boolean readPark(int n) {
            told = 0;
            draft.clear();
            tape.begin(n);
            for (int part = 0; part < MOST_TAPE && tape.goesOn(); part++) {
                switch (tape.keywordHere()) {
                    case W_PARK: readSize(); break;
                    case W_FADE: draft.fade = readRule(W_FADE, MOST_FADE); break;
                    case W_REST: draft.rest = readRule(W_REST, MOST_REST); break;
                    case W_ODDS: draft.odds = readRule(W_ODDS, MOST_ODDS); break;
                    case W_POND: readPond(); break;
                    case W_TUNE: readTune(); break;
                    case W_BAND: readBand(); break;
                    default: tape.blame(2);
                }
            }
            return tape.fault == 0;
        }

        private void needOnce(int word) {
            if ((told & (1 << word)) != 0) {
                tape.blame(5);
            }
            told |= 1 << word;
            tape.advance();
        }

        /** A word that stands behind park alone. */
        private void needBehindPark() {
            if ((told & (1 << W_PARK)) == 0) {
                tape.blame(2);
            }
        }

        private void readSize() {
            needOnce(W_PARK);
            int wide = tape.needNumber(1, MOST_WIDE);
            tape.needWord(W_BY);
            int deep = tape.needNumber(1, MOST_DEEP);
            tape.needEnd();
            if (tape.fault == 0) {
                draft.wide = wide;
                draft.deep = deep;
            }
        }

        private int readRule(int word, int most) {
            needOnce(word);
            int much = tape.needNumber(0, most);
            tape.needEnd();
            return much;
        }

        private void readPond() {
            needBehindPark();
            tape.advance();
            int column = tape.needNumber(0, draft.wide - 1);
            int row = tape.needNumber(0, draft.deep - 1);
            tape.needEnd();
            int cell = draft.cellAt(column, row);
            if (tape.fault == 0 && cell != NONE) {
                draft.pond[cell] = true;
            }
        }

        private long needNewName() {
            long name = tape.nameHere();
            if (draft.tuneNamed(name) != NONE || draft.bandNamed(name) != NONE) {
                tape.blame(3);
            }
            tape.advance();
            return name;
        }

        private void readTune() {
            if (draft.tunes >= MOST_TUNES) {
                tape.blame(6);
                return;
            }
            tape.advance();
            Tune it = draft.tune[draft.tunes];
            it.name = needNewName();
            tape.needWord(W_LOUD);
            it.loud = tape.needNumber(0, MOST_LOUD);
            tape.needWord(W_TOLL);
            it.toll = tape.needNumber(0, MOST_TOLL);
            it.beats = 4;
            if (tape.keywordHere() == W_BEATS) {
                tape.advance();
                it.beats = tape.needNumber(1, MOST_BEATS);
            }
            tape.needEnd();
            draft.tunes++;
        }

        private void readBand() {
            needBehindPark();
            if (draft.bands >= MOST_BANDS) {
                tape.blame(6);
                return;
            }
            tape.advance();
            Band it = draft.band[draft.bands];
            it.clear();
            it.name = needNewName();
            readStand(it);
            tape.needWord(W_STRENGTH);
            it.strength = tape.needNumber(0, MOST_STRENGTH);
            tape.needWord(W_LIPS);
            it.most = tape.needNumber(0, MOST_LIPS);
            it.lips = it.most;
            if (tape.keywordHere() == W_PLAYS) {
                readProgramme(it);
            }
            tape.needEnd();
            draft.bands++;
        }

        private void readStand(Band it) {
            tape.needWord(W_AT);
            it.column = tape.needNumber(0, draft.wide - 1);
            it.row = tape.numberHere(0, draft.deep - 1);
            if (draft.bandIsAt(it.column, it.row)) {
                tape.blame(5);
            }
            tape.advance();
        }

        private void readProgramme(Band it) {
            tape.advance();
            boolean more = true;
            for (int k = 0; k <= MOST_ENTRIES && more; k++) {
                int entry = tape.entryHere(draft);
                if (k >= MOST_ENTRIES) {
                    tape.blame(6);
                } else {
                    it.programme[k] = entry;
                    it.entries = k + 1;
                }
                tape.advance();
                more = tape.goesOn() && !tape.isSignHere(';');
            }
        }
    }

    /** Reads EVENINGS into a draft, so that the old ones stay if there is a fault. */
    private static final class EveningsReader {
        final Evenings draft = new Evenings();
        private final int[] open = new int[MOST_WITHIN];
        private final Tape tape;
        private final Park park;
        private int depth = 0;

        EveningsReader(Tape from, Park names) {
            tape = from;
            park = names;
        }

        boolean readEvenings(int n) {
            depth = 0;
            draft.clear();
            tape.begin(n);
            for (int i = 0; i < MOST_TAPE && tape.goesOn(); i++) {
                if (tape.keywordHere() == W_END) {
                    readBlockEnd();
                } else {
                    readStep();
                }
            }
            if (depth > 0) {
                tape.blame(2);
            }
            draft.there = true;
            return tape.fault == 0;
        }

        private void readBlockEnd() {
            if (depth <= 0) {
                tape.blame(2);
                return;
            }
            depth--;
            draft.after[open[depth]] = draft.steps;
            tape.advance();
            tape.needEnd();
        }

        private static boolean isStep(int word) {
            return word >= W_HOUR && word <= W_WHEN || word == W_LOOP || word == W_STOP;
        }

        private void readStep() {
            int word = tape.keywordHere();
            boolean opens = word == W_WHEN || word == W_LOOP;
            if (!isStep(word)) {
                tape.blame(2);
            } else if (draft.steps >= MOST_STEPS) {
                tape.blame(6);
            } else if (opens && depth >= MOST_WITHIN) {
                tape.blame(7);
            } else {
                int step = draft.steps;
                draft.word[step] = word;
                draft.after[step] = step + 1;
                draft.steps++;
                tape.advance();
                switch (word) {
                    case W_HOUR: draft.number[step] = tape.needNumber(1, 20); break;
                    case W_WIND: draft.number[step] = tape.needNumber(0, 3); break;
                    case W_LOOP: draft.number[step] = tape.needNumber(1, 99); break;
                    case W_SET: readSet(step); break;
                    case W_WHEN: readTest(step); break;
                    default: break;
                }
                tape.needEnd();
                if (opens) {
                    open[depth] = step;
                    depth++;
                }
            }
        }

        private void readSet(int step) {
            draft.who[step] = tape.needBand(park);
            draft.number[step] = tape.needNumber(0, MOST_ENTRIES - 1);
            draft.detail[step] = tape.needEntry(park);
        }

        private void readTest(int step) {
            int test = tape.keywordHere();
            draft.test[step] = test;
            if (test != W_HOLDS && test != W_TIRED && test != W_RAINING) {
                tape.blame(2);
                return;
            }
            tape.advance();
            if (test != W_RAINING) {
                draft.who[step] = tape.needBand(park);
            }
            if (test == W_HOLDS) {
                draft.detail[step] = tape.needCompares();
                draft.number[step] = tape.needNumber(0, MOST_CELLS);
            }
        }
    }

    private static final class Tune {
        long name = 0;
        int loud = 0;
        int toll = 0;
        int beats = 4;

        void takeFrom(Tune other) {
            name = other.name;
            loud = other.loud;
            toll = other.toll;
            beats = other.beats;
        }
    }

    private static final class Band {
        long name = 0;
        int column = 0;
        int row = 0;
        int strength = 0;
        int lips = 0;
        int most = 0;
        int points = 0;
        int entries = 0;
        final int[] programme = new int[MOST_ENTRIES];

        void clear() {
            points = 0;
            entries = 0;
        }

        void takeFrom(Band other) {
            name = other.name;
            column = other.column;
            row = other.row;
            strength = other.strength;
            lips = other.lips;
            most = other.most;
            points = other.points;
            entries = other.entries;
            for (int k = 0; k < MOST_ENTRIES; k++) {
                programme[k] = other.programme[k];
            }
        }

        int wantedIn(int hour) {
            if (entries <= 0 || entries > MOST_ENTRIES || hour < 0) {
                return HUSH;
            }
            return programme[hour % entries];
        }

        /** LIPS behind an hour, from so many ahead of it. */
        int lipsAfter(int before, boolean hasPlayed, int toll, int rest) {
            return hasPlayed ? before - toll : Math.min(most, before + rest);
        }
    }

    /** STEPS in a row; the block of a when or a loop goes from behind it up to its 'after'. */
    private static final class Evenings {
        boolean there = false;
        int steps = 0;
        final int[] word = new int[MOST_STEPS];
        final int[] test = new int[MOST_STEPS];
        final int[] who = new int[MOST_STEPS];
        final int[] number = new int[MOST_STEPS];
        final int[] detail = new int[MOST_STEPS];
        final int[] after = new int[MOST_STEPS];

        void clear() {
            there = false;
            steps = 0;
        }

        void takeFrom(Evenings other) {
            there = other.there;
            steps = other.steps;
            for (int i = 0; i < steps && i < MOST_STEPS; i++) {
                word[i] = other.word[i];
                test[i] = other.test[i];
                who[i] = other.who[i];
                number[i] = other.number[i];
                detail[i] = other.detail[i];
                after[i] = other.after[i];
            }
        }
    }

    /** All that a MARK keeps. */
    private static final class Park {
        int wide = 0;
        int deep = 0;
        int fade = 2;
        int rest = 2;
        int odds = 4;
        int hour = 0;
        int wind = CALM;
        boolean raining = false;
        final boolean[] pond = new boolean[MOST_CELLS];
        int tunes = 0;
        final Tune[] tune = new Tune[MOST_TUNES];
        int bands = 0;
        final Band[] band = new Band[MOST_BANDS];
        final Evenings evenings = new Evenings();
        /** Another one whenever what was worked out about sound may hold no longer. */
        int version = 0;

        Park() {
            for (int i = 0; i < MOST_TUNES; i++) {
                tune[i] = new Tune();
            }
            for (int i = 0; i < MOST_BANDS; i++) {
                band[i] = new Band();
            }
        }

        void clear() {
            wide = 0;
            deep = 0;
            fade = 2;
            rest = 2;
            odds = 4;
            hour = 0;
            wind = CALM;
            raining = false;
            tunes = 0;
            bands = 0;
            evenings.clear();
            version++;
            for (int i = 0; i < MOST_CELLS; i++) {
                pond[i] = false;
            }
        }

        void takeFrom(Park other) {
            wide = other.wide;
            deep = other.deep;
            fade = other.fade;
            rest = other.rest;
            odds = other.odds;
            hour = other.hour;
            wind = other.wind;
            raining = other.raining;
            tunes = other.tunes;
            bands = other.bands;
            evenings.takeFrom(other.evenings);
            version++;
            for (int i = 0; i < MOST_CELLS; i++) {
                pond[i] = other.pond[i];
            }
            for (int i = 0; i < tunes && i < MOST_TUNES; i++) {
                tune[i].takeFrom(other.tune[i]);
            }
            for (int i = 0; i < bands && i < MOST_BANDS; i++) {
                band[i].takeFrom(other.band[i]);
            }
        }

        boolean hasTune(int i) {
            return i >= 0 && i < tunes && i < MOST_TUNES;
        }

        boolean hasBand(int i) {
            return i >= 0 && i < bands && i < MOST_BANDS;
        }

        boolean hasEntry(int i) {
            return i == HUSH || hasTune(i);
        }

        boolean isBandSet(int set) {
            return set >= 0 && set < (1 << bands);
        }

        int countCells() {
            int cells = wide * deep;
            return cells < MOST_CELLS ? cells : MOST_CELLS;
        }

        int cellAt(int column, int row) {
            boolean is = column >= 0 && column < wide && row >= 0 && row < deep;
            return is ? row * wide + column : NONE;
        }

        int countPonds() {
            int found = 0;
            for (int cell = 0; cell < countCells(); cell++) {
                found += pond[cell] ? 1 : 0;
            }
            return found;
        }

        int tuneNamed(long name) {
            for (int i = 0; i < tunes && i < MOST_TUNES; i++) {
                if (tune[i].name == name) {
                    return i;
                }
            }
            return NONE;
        }

        int bandNamed(long name) {
            for (int i = 0; i < bands && i < MOST_BANDS; i++) {
                if (band[i].name == name) {
                    return i;
                }
            }
            return NONE;
        }

        boolean bandIsAt(int column, int row) {
            for (int i = 0; i < bands && i < MOST_BANDS; i++) {
                if (band[i].column == column && band[i].row == row) {
                    return true;
                }
            }
            return false;
        }

        void placeBand(int i, int column, int row) {
            if (hasBand(i)) {
                band[i].column = column;
                band[i].row = row;
                version++;
            }
        }

        boolean turnWind(int to) {
            if (wind == to) {
                return false;
            }
            wind = to;
            version++;
            return true;
        }

        boolean turnRain(boolean is) {
            if (raining == is) {
                return false;
            }
            raining = is;
            version++;
            return true;
        }

        boolean changeRule(int what, int much) {
            if (what == 4 && much >= 0 && much <= MOST_FADE) {
                fade = much;
                version++;
                return true;
            }
            if (what == 5 && much >= 0 && much <= MOST_REST) {
                rest = much;
                return true;
            }
            if (what == 6 && much >= 0 && much <= MOST_ODDS) {
                odds = much;
                return true;
            }
            return false;
        }

        int tollOf(int entry) {
            return hasTune(entry) ? tune[entry].toll : 0;
        }

        boolean canHavePlayed(int i, int lips, long[] played, int n) {
            if (!hasBand(i)) {
                return false;
            }
            int left = lips;
            for (int h = 0; h < n && h < played.length; h++) {
                int wanted = band[i].wantedIn(h);
                int toll = tollOf(wanted);
                boolean hasPlayed = wanted != HUSH && left >= toll;
                if (hasPlayed != (played[h] == 1)) {
                    return false;
                }
                left = band[i].lipsAfter(left, hasPlayed, toll, rest);
            }
            return true;
        }
    }

    /**
     * Who is heard where in a park. What one way of playing gives each band is kept until the
     * park's version changes, for the same few ways come again hour after hour.
     */
    private static final class Sound {
        private static final int SLOTS = 64;

        private final Park park;
        private final int[][] loss = new int[MOST_BANDS][MOST_CELLS];
        private final int[] keys = new int[SLOTS];
        private final int[] lawns = new int[SLOTS * MOST_BANDS];
        private final int[] gains = new int[SLOTS * MOST_BANDS];
        private int seen = -1;

        Sound(Park about) {
            park = about;
        }

        /** Must come ahead of all else that is asked here, once the park may have changed. */
        void refresh() {
            if (seen == park.version) {
                return;
            }
            seen = park.version;
            for (int i = 0; i < SLOTS; i++) {
                keys[i] = NONE;
            }
            int rain = park.raining ? 2 : 0;
            for (int b = 0; b < park.bands && b < MOST_BANDS; b++) {
                for (int cell = 0; park.wide > 0 && cell < park.countCells(); cell++) {
                    int columns = cell % park.wide - park.band[b].column;
                    int rows = cell / park.wide - park.band[b].row;
                    loss[b][cell] = rain + lossAlong(columns, 0, 2) + lossAlong(rows, 1, 3);
                }
            }
        }

        /** Steps above 0 go with the first of the two winds, steps below 0 with the second. */
        private int lossAlong(int steps, int windUp, int windDown) {
            int with = steps > 0 ? windUp : windDown;
            int against = steps > 0 ? windDown : windUp;
            int many = steps > 0 ? steps : -steps;
            if (park.wind == against) {
                return many * (park.fade + 1);
            }
            return park.wind == with && park.fade > 0 ? many * (park.fade - 1) : many * park.fade;
        }

        int levelAt(int b, int entry, int cell) {
            boolean isTune = entry >= 0 && entry < park.tunes && entry < MOST_TUNES;
            boolean isStand = b >= 0 && b < MOST_BANDS && cell >= 0 && cell < MOST_CELLS;
            if (!isTune || !isStand) {
                return 0;
            }
            int level = park.band[b].strength + park.tune[entry].loud - loss[b][cell];
            return level > 0 ? level : 0;
        }

        /** The band that holds a cell, SILENT or BLUR, if all play so. */
        int holderAt(int[] plays, int cell) {
            int most = 0;
            int who = SILENT;
            for (int b = 0; b < park.bands && b < plays.length; b++) {
                int level = levelAt(b, plays[b], cell);
                if (level > most) {
                    most = level;
                    who = b;
                } else if (level == most && level > 0) {
                    who = BLUR;
                }
            }
            return who;
        }

        /** By how much the loudest band is heard, one of them not asked. */
        int loudestBut(int except, int[] plays, int cell) {
            int most = 0;
            for (int b = 0; b < park.bands && b < plays.length; b++) {
                if (b != except) {
                    most = Math.max(most, levelAt(b, plays[b], cell));
                }
            }
            return most;
        }

        /** Where it is kept what all bands have that play so. */
        int slotOf(int[] plays) {
            int key = 0;
            for (int b = 0; b < park.bands && b < plays.length; b++) {
                key = key * 8 + plays[b];
            }
            int slot = (key ^ key >> 6 ^ key >> 12) & SLOTS - 1;
            if (keys[slot] != key) {
                keys[slot] = key;
                fillSlot(slot, plays);
            }
            return slot;
        }

        private void fillSlot(int slot, int[] plays) {
            int first = slot * MOST_BANDS;
            for (int b = 0; b < MOST_BANDS; b++) {
                lawns[first + b] = 0;
                gains[first + b] = 0;
            }
            for (int cell = 0; cell < park.countCells(); cell++) {
                int who = holderAt(plays, cell);
                if (who >= 0) {
                    lawns[first + who]++;
                    gains[first + who] += park.pond[cell] ? 3 : 1;
                }
            }
        }

        int lawnsIn(int slot, int b) {
            return isKept(slot, b) ? lawns[slot * MOST_BANDS + b] : 0;
        }

        int gainIn(int slot, int b) {
            return isKept(slot, b) ? gains[slot * MOST_BANDS + b] : 0;
        }

        private static boolean isKept(int slot, int b) {
            return slot >= 0 && slot < SLOTS && b >= 0 && b < MOST_BANDS;
        }
    }

    /** A park in which hours go by and evenings are lived. */
    private static final class Stage {
        final Park park = new Park();
        final Sound sound = new Sound(park);
        final int[] plays = new int[MOST_BANDS];
        int done = 0;
        private int tiredNow = 0;
        private int missed = 0;
        private int hours = 0;
        private int points = 0;
        private int tired = 0;
        private boolean left = false;
        private boolean stopped = false;
        private int draws = 0;

        /** What each band plays NOW, and who is tired; all that is heard NOW comes behind this. */
        void look() {
            sound.refresh();
            tiredNow = 0;
            for (int b = 0; b < MOST_BANDS; b++) {
                plays[b] = HUSH;
                if (b < park.bands) {
                    int wanted = park.band[b].wantedIn(park.hour);
                    if (park.band[b].lips >= park.tollOf(wanted)) {
                        plays[b] = wanted;
                    } else {
                        tiredNow |= 1 << b;
                    }
                }
            }
        }

        int playedBy(int b) {
            look();
            return park.hasBand(b) ? plays[b] : HUSH;
        }

        int playingSet() {
            look();
            int set = 0;
            for (int b = 0; b < MOST_BANDS; b++) {
                set |= plays[b] == HUSH ? 0 : 1 << b;
            }
            return set;
        }

        int tiredSet() {
            look();
            return tiredNow;
        }

        int levelAt(int b, int entry, int cell) {
            look();
            return sound.levelAt(b, entry, cell);
        }

        int holderAt(int cell) {
            look();
            return sound.holderAt(plays, cell);
        }

        int loudestAt(int cell) {
            look();
            return sound.loudestBut(NONE, plays, cell);
        }

        int lawnsOf(int b) {
            look();
            return sound.lawnsIn(sound.slotOf(plays), b);
        }

        int countHeldBy(int who) {
            look();
            int found = 0;
            for (int cell = 0; cell < park.countCells(); cell++) {
                found += sound.holderAt(plays, cell) == who ? 1 : 0;
            }
            return found;
        }

        int countPondsHeldBy(int who) {
            look();
            int found = 0;
            for (int cell = 0; cell < park.countCells(); cell++) {
                found += park.pond[cell] && sound.holderAt(plays, cell) == who ? 1 : 0;
            }
            return found;
        }

        /** The points that all bands get in so many hours. */
        int passHours(int many) {
            int got = 0;
            for (int i = 0; i < many; i++) {
                look();
                int slot = sound.slotOf(plays);
                for (int b = 0; b < park.bands && b < MOST_BANDS; b++) {
                    Band it = park.band[b];
                    int gain = sound.gainIn(slot, b);
                    it.points += gain;
                    got += gain;
                    it.lips = it.lipsAfter(it.lips, plays[b] != HUSH, park.tollOf(plays[b]), park.rest);
                }
                tired += Integer.bitCount(tiredNow);
                park.hour++;
            }
            return got;
        }

        void beginEvenings(int seed) {
            draws = seed;
            done = 0;
            missed = 0;
            hours = 0;
            points = 0;
            tired = 0;
            left = false;
            stopped = false;
        }

        void copyTallies(int[] into) {
            if (into.length >= TALLIES) {
                into[0] = missed;
                into[1] = hours;
                into[2] = points;
                into[3] = tired;
                into[4] = left ? 1 : 0;
            }
        }

        /** Does the steps of a block, and those of the blocks in it. */
        private static void doSteps(Stage on, int from, int to, int depth) {
            if (depth > MOST_WITHIN || from < 0 || to > MOST_STEPS) {
                return;
            }
            Evenings evenings = on.park.evenings;
            for (int step = from; step < to && !on.stopped; step++) {
                if (on.done >= MOST_DONE) {
                    on.left = true;
                    on.stopped = true;
                    return;
                }
                on.done++;
                int word = evenings.word[step];
                int after = Math.max(evenings.after[step], step + 1);
                int times = word == W_LOOP ? evenings.number[step] : 0;
                if (word == W_WHEN) {
                    times = on.isSo(step) ? 1 : 0;
                } else if (word != W_LOOP && !on.doPlain(step)) {
                    on.missed++;
                }
                for (int i = 0; i < times && !on.stopped; i++) {
                    doSteps(on, step + 1, after, depth + 1);
                }
                step = after - 1;
            }
        }

        private boolean isSo(int step) {
            int who = park.evenings.who[step];
            switch (park.evenings.test[step]) {
                case W_HOLDS: return compares(lawnsOf(who), step);
                case W_TIRED: return (tiredSet() >> who & 1) == 1;
                default: return park.raining;
            }
        }

        private boolean compares(int much, int step) {
            int number = park.evenings.number[step];
            switch (park.evenings.detail[step]) {
                case '<': return much < number;
                case '>': return much > number;
                default: return much == number;
            }
        }

        /** False if the step is missed. */
        private boolean doPlain(int step) {
            int number = park.evenings.number[step];
            switch (park.evenings.word[step]) {
                case W_HOUR:
                    if (park.hour + number > MOST_HOUR) {
                        return false;
                    }
                    points += passHours(number);
                    hours += number;
                    return true;
                case W_WIND: return park.turnWind(number);
                case W_CALM: return park.turnWind(CALM);
                case W_RAIN: return park.turnRain(true);
                case W_DRY: return park.turnRain(false);
                case W_SET: return doSet(step);
                case W_ANY:
                    park.turnRain(draw(16) < park.odds);
                    park.turnWind(draw(5));
                    return true;
                default:
                    stopped = true;
                    return true;
            }
        }

        private boolean doSet(int step) {
            int who = park.evenings.who[step];
            int k = park.evenings.number[step];
            if (!park.hasBand(who) || k < 0 || k >= park.band[who].entries) {
                return false;
            }
            park.band[who].programme[k] = park.evenings.detail[step];
            return true;
        }

        private int draw(int by) {
            draws = (draws * 2971 + 10781) % 65536;
            return by > 0 ? draws / 8 % by : 0;
        }
    }

    /** What has to be looked for among tunes, sets of bands and ways. */
    private static final class Search {
        final int[] chosen = new int[MOST_HOLDING];
        private final int[] rivals = new int[MOST_HOLDING];
        private final int[] own = new int[HUSH + 1];
        private final int[][] held = new int[MOST_HOLDING + 1][MOST_LIPS + 1];
        private final int[] plays = new int[MOST_BANDS];
        private final int[] levels = new int[MOST_CELLS];
        private final int[] steps = new int[MOST_CELLS];
        private final int[] queue = new int[MOST_CELLS];

        // ---- HOLDING

        /** In how many hours it holds the cell; the entries come to 'chosen'. The stage is used up. */
        int findHolding(Stage stage, int band, int cell, int n) {
            Park park = stage.park;
            if (!park.hasBand(band) || n < 1 || n > MOST_HOLDING) {
                return 0;
            }
            int lips = park.band[band].lips;
            for (int entry = 0; entry <= HUSH; entry++) {
                own[entry] = stage.levelAt(band, entry, cell);
            }
            for (int k = 0; k < n; k++) {
                stage.look();
                rivals[k] = stage.sound.loudestBut(band, stage.plays, cell);
                stage.passHours(1);
            }
            fillHeld(park, band, n);
            int most = held[0][lips];
            for (int k = 0; k < n; k++) {
                chosen[k] = firstGood(park, band, k, lips);
                lips = lipsWith(park, band, chosen[k], lips);
            }
            return most;
        }

        /** From the last hour back: in how many hours from k on it can hold the cell with such lips. */
        private void fillHeld(Park park, int band, int n) {
            for (int lips = 0; lips <= MOST_LIPS; lips++) {
                held[n][lips] = 0;
            }
            for (int k = n - 1; k >= 0; k--) {
                for (int lips = 0; lips <= park.band[band].most && lips <= MOST_LIPS; lips++) {
                    held[k][lips] = heldWith(park, band, k, lips, HUSH);
                    for (int i = 0; i < park.tunes; i++) {
                        held[k][lips] = Math.max(held[k][lips], heldWith(park, band, k, lips, i));
                    }
                }
            }
        }

        private int firstGood(Park park, int band, int k, int lips) {
            for (int i = 0; i < park.tunes; i++) {
                if (heldWith(park, band, k, lips, i) == held[k][lips]) {
                    return i;
                }
            }
            return HUSH;
        }

        private int heldWith(Park park, int band, int k, int lips, int entry) {
            boolean holds = lips >= park.tollOf(entry) && own[entry] > rivals[k];
            return (holds ? 1 : 0) + held[k + 1][lipsWith(park, band, entry, lips)];
        }

        private static int lipsWith(Park park, int band, int entry, int lips) {
            int toll = park.tollOf(entry);
            boolean hasPlayed = entry != HUSH && lips >= toll;
            return park.band[band].lipsAfter(lips, hasPlayed, toll, park.rest);
        }

        // ---- one band's tune

        private void takePlays(Stage stage) {
            stage.look();
            for (int b = 0; b < MOST_BANDS; b++) {
                plays[b] = stage.plays[b];
            }
        }

        int lawnsWith(Stage stage, int band, int entry) {
            if (!stage.park.hasBand(band)) {
                return 0;
            }
            takePlays(stage);
            plays[band] = entry;
            return stage.sound.lawnsIn(stage.sound.slotOf(plays), band);
        }

        int findBest(Stage stage, int band) {
            int best = NONE;
            int most = -1;
            for (int i = 0; i < stage.park.tunes; i++) {
                int found = lawnsWith(stage, band, i);
                if (found > most) {
                    most = found;
                    best = i;
                }
            }
            return best;
        }

        int findLow(Stage stage, int band, int cell) {
            takePlays(stage);
            int rival = stage.sound.loudestBut(band, plays, cell);
            int least = NONE;
            for (int i = 0; i < stage.park.tunes; i++) {
                int toll = stage.park.tollOf(i);
                boolean holds = stage.sound.levelAt(band, i, cell) > rival;
                if (holds && (least == NONE || toll < least)) {
                    least = toll;
                }
            }
            return least;
        }

        /** All tunes as they are numbered, HUSH last. */
        private static int entryInOrder(Park park, int i) {
            return i < park.tunes ? i : HUSH;
        }

        // ---- GAME

        int playGame(Stage stage, int band, int other, int turns) {
            takePlays(stage);
            return valueOf(plays, stage, band, other, turns, true);
        }

        /** What the first gets with so many turns left, the first or the second being next. */
        private static int valueOf(int[] plays, Stage stage, int band, int other, int turns, boolean firstIsNext) {
            if (turns <= 0 || turns > MOST_TURNS) {
                int slot = stage.sound.slotOf(plays);
                return stage.sound.lawnsIn(slot, band) - stage.sound.lawnsIn(slot, other);
            }
            int who = firstIsNext ? band : other;
            if (who < 0 || who >= plays.length) {
                return 0;
            }
            int stays = plays[who];
            int best = firstIsNext ? -MOST_CELLS : MOST_CELLS;
            for (int i = 0; i <= stage.park.tunes; i++) {
                plays[who] = entryInOrder(stage.park, i);
                int value = valueOf(plays, stage, band, other, turns - 1, !firstIsNext);
                best = firstIsNext ? Math.max(best, value) : Math.min(best, value);
            }
            plays[who] = stays;
            return best;
        }

        /** NONE if the first stays. */
        int findMove(Stage stage, int band, int other, int turns) {
            int best = playGame(stage, band, other, turns);
            int stays = plays[band];
            for (int i = 0; i <= stage.park.tunes; i++) {
                int entry = entryInOrder(stage.park, i);
                plays[band] = entry;
                if (entry != stays && valueOf(plays, stage, band, other, turns - 1, false) == best) {
                    return entry;
                }
            }
            return NONE;
        }

        // ---- alliances

        int countAlly(Stage stage, int set) {
            takePlays(stage);
            int found = 0;
            for (int cell = 0; cell < stage.park.countCells(); cell++) {
                int together = 0;
                int rival = 0;
                for (int b = 0; b < stage.park.bands && b < MOST_BANDS; b++) {
                    int level = stage.sound.levelAt(b, plays[b], cell);
                    if ((set >> b & 1) == 1) {
                        together += level;
                    } else {
                        rival = Math.max(rival, level);
                    }
                }
                found += together > rival ? 1 : 0;
            }
            return found;
        }

        boolean isStable(Stage stage, int set) {
            int cells = countAlly(stage, set);
            int members = Integer.bitCount(set);
            for (int b = 0; b < stage.park.bands; b++) {
                if ((set >> b & 1) == 1 && members * stage.lawnsOf(b) > cells) {
                    return false;
                }
            }
            return true;
        }

        int findAlliance(Stage stage) {
            int found = NONE;
            int most = -1;
            for (int set = 1; set < (1 << stage.park.bands); set++) {
                if (Integer.bitCount(set) >= 2 && isStable(stage, set)) {
                    int cells = countAlly(stage, set);
                    if (cells > most) {
                        most = cells;
                        found = set;
                    }
                }
            }
            return found;
        }

        // ---- QUIET ways

        int findQuiet(Stage stage, int from, int to) {
            for (int cell = 0; cell < stage.park.countCells(); cell++) {
                levels[cell] = stage.loudestAt(cell);
            }
            int most = MOST_STRENGTH + MOST_LOUD;
            for (int level = 0; level < most; level++) {
                if (countSteps(stage.park, from, to, level) != NONE) {
                    return level;
                }
            }
            return most;
        }

        /** The fewest steps through cells in which no more than this is heard; NONE: no such way. */
        int countSteps(Park park, int from, int to, int level) {
            int cells = park.countCells();
            boolean areCells = from >= 0 && from < cells && to >= 0 && to < cells;
            if (!areCells || park.wide <= 0 || levels[from] > level) {
                return NONE;
            }
            for (int cell = 0; cell < cells; cell++) {
                steps[cell] = NONE;
            }
            steps[from] = 0;
            queue[0] = from;
            int filled = 1;
            for (int i = 0; i < filled && i < cells; i++) {
                int column = queue[i] % park.wide;
                int row = queue[i] / park.wide;
                int next = steps[queue[i]] + 1;
                filled = reach(park.cellAt(column + 1, row), level, next, filled);
                filled = reach(park.cellAt(column, row + 1), level, next, filled);
                filled = reach(park.cellAt(column - 1, row), level, next, filled);
                filled = reach(park.cellAt(column, row - 1), level, next, filled);
            }
            return steps[to];
        }

        private int reach(int cell, int level, int next, int filled) {
            boolean isNew = cell >= 0 && cell < MOST_CELLS && steps[cell] == NONE;
            if (!isNew || levels[cell] > level || filled >= MOST_CELLS) {
                return filled;
            }
            steps[cell] = next;
            queue[filled] = cell;
            return filled + 1;
        }
    }
}
