import java.io.IOException;
import java.nio.file.Files;
import java.nio.file.Path;
import java.util.Arrays;
import java.util.function.Predicate;
import java.util.function.ToLongFunction;

/**
 * What the tests of edges share: the promise and the words of the document that each tests, and
 * calls that are refused, behind which all must be as it was.
 */
final class Edge {
    static final int MIN = Integer.MIN_VALUE;
    static final int MAX = Integer.MAX_VALUE;

    /** Numbers that no index, count or kind of any call is. */
    static final int[] NO_NUMBERS = {MIN, MIN + 1, -2, -1, MAX - 1, MAX};

    static final String PARK =
        "park 4 by 3;fade 2;rest 2;odds 8;pond 1 1;pond 2 1;"
        + "tune march loud 4 toll 3 beats 4;tune waltz loud 2 toll 1 beats 6;tune polka loud 6 toll 5;"
        + "band north at 0 0 strength 8 lips 10 plays march waltz;"
        + "band south at 3 2 strength 7 lips 6 plays polka hush;"
        + "band tuba at 3 0 strength 3 lips 4;";
    private static final String EVENINGS = "hour 1;any;set north 0 polka;when tired south;rain;end;hour 2;";

    private static final boolean[] tested = new boolean[61];
    private static String document = "";

    private Edge() {
    }

    static void begin(String[] args) throws IOException {
        Path shared = Path.of(args.length > 0 ? args[0] : "../shared");
        document = Files.readString(shared.resolve("DOC.md")).replaceAll("\\s+", " ");
    }

    /** The tests that follow are of this promise, and of these words: its own, or those of Terms. */
    static void promise(int n, String words) {
        tested[n] = true;
        Check.about("promise " + n + ", '" + words + "'");
        int terms = document.indexOf("## Terms");
        int own = document.indexOf("## Promise " + n + ":");
        int next = document.indexOf("## ", own + 3);
        boolean stands = document.substring(own, next).contains(words)
            || document.substring(terms, document.indexOf("## Promise 1:")).contains(words);
        Check.yes("the document says so", stands);
    }

    static void end(int first, int last) {
        Check.about("tests");
        for (int n = first; n <= last; n++) {
            Check.yes("promise " + n + " has some", tested[n]);
        }
        Check.end();
    }

    /**
     * A park of which all is other than at first: hours, wind, points, evenings lived, one mark,
     * trays 0 (8 bits, 5 numbers), 1 (64 bits, 3 numbers), 2 (8 bits, 30 numbers), a fraction;
     * tray 3 is missing, the tape empty.
     */
    static BandPark bare() {
        BandPark x = Check.made(PARK);
        Check.evenings(x, EVENINGS);
        x.mark();
        x.hour(3);
        x.live(5);
        x.soothe(0, 9);
        x.soothe(1, 5);
        x.tray(0, 0, 5);
        x.write(0, 0, -1);
        x.write(0, 4, 77);
        x.tray(1, 3, 3);
        x.write(1, 1, Long.MIN_VALUE);
        x.tray(2, 0, 30);
        x.write(2, 0, 1);
        x.write(2, 24, 2);
        x.wet(3, 1);
        return x;
    }

    /** The same with 40 bytes on the tape, and a fault told latest. */
    static BandPark busy() {
        BandPark x = bare();
        Check.evenings(x, "hour 0;");
        Check.feed(x, "park 2 by 2;rain    park 3 by 3;        ");
        return x;
    }

    /** All of the park, the trays, what was lived and the fraction. */
    private static long[] seen(BandPark x) {
        long[] all = new long[220];
        int n = 0;
        all[n++] = x.top();
        all[n++] = x.bottom();
        for (int i = 0; i < 15; i++) {
            all[n++] = x.many(i);
        }
        for (int i = 0; i < 9; i++) {
            all[n++] = x.tune(i / 3, i % 3);
        }
        for (int i = 0; i < 21; i++) {
            all[n++] = x.band(i / 7, i % 7);
        }
        for (int i = 0; i < 9; i++) {
            all[n++] = x.entry(i / 3, i % 3);
        }
        for (int i = 0; i < 12; i++) {
            all[n++] = x.pond(i % 4, i / 4);
        }
        for (int i = 0; i < 28; i++) {
            all[n++] = x.read(i / 7, i % 7);
            all[n++] = x.status();
        }
        all[n++] = x.read(2, 24);
        all[n++] = x.read(2, 29);
        for (int i = 0; i < 5; i++) {
            all[n++] = x.lived(i);
        }
        return all;
    }

    /** What can be seen by calls that change something: evenings, marks. */
    private static long[] seenBehind(BandPark x) {
        return new long[] {x.live(9), x.many(7), x.many(8), x.many(9), x.band(0, 5), x.mark(), x.back(), x.many(7), x.back(),
            x.many(7), x.many(8), x.band(0, 3), x.band(0, 5), x.back(), x.live(2), x.many(7)};
    }

    static void same(String what, BandPark x, BandPark y) {
        Check.yes(what + " leaves all", Arrays.equals(seen(x), seen(y)));
        Check.same(what + " leaves the fault", x.fault(0) * 1000 + x.fault(1), y.fault(0) * 1000 + y.fault(1));
        Check.same(what + " leaves the tape", x.feed(0, 0, 0, 0, 0), y.feed(0, 0, 0, 0, 0));
        Check.yes(what + " leaves evenings and marks", Arrays.equals(seenBehind(x), seenBehind(y)));
    }

    /** A call that is refused with that status on a busy park, and changes nothing. */
    static void no(String what, int status, ToLongFunction<BandPark> call) {
        BandPark x = busy();
        Check.same(what, call.applyAsLong(x), BandPark.NONE);
        Check.same(what + ": status", x.status(), status);
        same(what, x, busy());
    }

    static void not(String what, int status, Predicate<BandPark> call) {
        BandPark x = busy();
        Check.yes(what + " is false", !call.test(x));
        Check.same(what + ": status", x.status(), status);
        same(what, x, busy());
    }

    /** A call that changes nothing on a busy park, though it is answered. */
    static void asks(String what, ToLongFunction<BandPark> call) {
        BandPark x = busy();
        call.applyAsLong(x);
        Check.same(what + ": status", x.status(), 0);
        same(what, x, busy());
    }

    /** A text that is no PARK: its fault is told, the tape is empty then, the old park stays. */
    static void parkFault(String text, int kind, int place) {
        BandPark x = bare();
        Check.no(text, x, Check.park(x, text), 10);
        faultStands(text, x, kind, place);
    }

    /** The same for EVENINGS. */
    static void eveningsFault(String text, int kind, int place) {
        BandPark x = bare();
        Check.no(text, x, Check.evenings(x, text), 10);
        faultStands(text, x, kind, place);
    }

    private static void faultStands(String text, BandPark x, int kind, int place) {
        Check.same(text + ": fault", x.fault(0), kind);
        Check.same(text + ": place", x.fault(1), place);
        Check.same(text + ": the tape is empty", x.feed(0, 0, 0, 0, 0), 20);
        BandPark y = bare();
        Check.yes(text + ": the old park stays", Arrays.equals(seen(x), seen(y)));
        Check.yes(text + ": the old evenings stay", Arrays.equals(seenBehind(x), seenBehind(y)));
    }
}
