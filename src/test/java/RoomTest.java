import com.sun.management.ThreadMXBean;
import java.lang.management.ManagementFactory;

/**
 * No call makes an object, none throws, whatever it is given; and a new object is small, for all
 * objects of a run live in one room.
 */
public final class RoomTest {
    private static final int[] WILD = {Integer.MIN_VALUE, Integer.MIN_VALUE + 1, -1, 0, 1, 2, 3, 4, 5, 6, 7, 30, 31, 60, 61, 99, 100,
        200, 201, 300, 301, 900, 901, 9999, 10000, 65536, Integer.MAX_VALUE - 1, Integer.MAX_VALUE};
    private static final String EVENINGS =
        "loop 99;any;loop 2;hour 20;when tired a;set a 0 q;end;when holds b > 3;wind 1;end;end;dry;end;stop;";
    private static int s = 7;

    public static void main(String[] args) {
        ThreadMXBean threads = (ThreadMXBean) ManagementFactory.getThreadMXBean();
        long me = Thread.currentThread().getId();
        // the first rounds warm up the machine and its own objects
        BandPark warm = full();
        for (int i = 0; i < 2000; i++) {
            any(warm);
        }
        BandPark x = full();
        long before = threads.getThreadAllocatedBytes(me);
        long none = threads.getThreadAllocatedBytes(me) - before;
        before = threads.getThreadAllocatedBytes(me);
        for (int i = 0; i < 20000; i++) {
            any(x);
        }
        long used = threads.getThreadAllocatedBytes(me) - before - none;
        Check.yes("20,000 calls made objects of " + used + " bytes", used < 20000);
        before = threads.getThreadAllocatedBytes(me);
        BandPark made = new BandPark();
        used = threads.getThreadAllocatedBytes(me) - before - none;
        Check.yes("a new object has " + used + " bytes", used < 60000 && made.status() == 0);
        wildOnNew();
        Check.end();
    }

    private static BandPark full() {
        BandPark x = Check.made("park 6 by 5;fade 1;rest 2;tune p loud 9 toll 1;tune q loud 12 toll 3;tune r loud 3 toll 0;"
            + "tune s loud 20 toll 9;tune t loud 1 toll 2;tune u loud 7 toll 4;"
            + "band a at 0 0 strength 9 lips 20 plays p q r s;band b at 5 4 strength 8 lips 15 plays s t u hush p;"
            + "band c at 2 2 strength 10 lips 9 plays q;band d at 3 1 strength 3 lips 99 plays s s p;"
            + "band e at 0 4 strength 20 lips 30 plays u t;band f at 5 0 strength 12 lips 40 plays p p r;");
        Check.evenings(x, EVENINGS);
        x.tray(0, 0, 60);
        x.tray(1, 3, 24);
        return x;
    }

    private static int wild() {
        s = s * 1103515245 + 12345;
        int r = s >>> 8;
        return r % 3 == 0 ? WILD[r / 3 % WILD.length] : r / 3 % 8;
    }

    private static void any(BandPark x) {
        int a = wild();
        int b = wild();
        int c = wild();
        int d = wild();
        int e = wild();
        switch ((s >>> 4) % 60) {
            case 0: x.status(); break;
            case 1: x.top(); break;
            case 2: x.bottom(); break;
            case 3: x.tray(a, b, c); break;
            case 4: x.write(a, b, c); break;
            case 5: x.read(a, b); break;
            case 6: x.pour(a, b, c, d, e); break;
            case 7: x.feed(a, b, c, d, e); break;
            case 8: if (a < 0) {
                    x.park(b);
                }
                break;
            case 9: if (a < 0) {
                    x.evenings(b);
                }
                break;
            case 10: x.fault(a); break;
            case 11: x.many(a); break;
            case 12: x.tune(a, b); break;
            case 13: x.band(a, b); break;
            case 14: x.entry(a, b); break;
            case 15: x.pond(a, b); break;
            case 16: x.hour(a); break;
            case 17: x.wind(a); break;
            case 18: x.rain(a > 3); break;
            case 19: x.set(a, b, c); break;
            case 20: x.drop(a); break;
            case 21: x.move(a, b, c); break;
            case 22: x.train(a, b); break;
            case 23: x.soothe(a, b); break;
            case 24: x.rule(a, b); break;
            case 25: x.dig(a, b, c > 3); break;
            case 26: x.plays(a); break;
            case 27: x.heard(a, b, c, d); break;
            case 28: x.loudest(a, b); break;
            case 29: x.holder(a, b); break;
            default: anyMore(x, (s >>> 4) % 60, a, b, c, d, e);
        }
    }

    private static void anyMore(BandPark x, int call, int a, int b, int c, int d, int e) {
        switch (call) {
            case 30: x.lawns(a); break;
            case 31: x.ponds(a); break;
            case 32: x.copyHeld(a); break;
            case 33: x.holderIn(a, b, c); break;
            case 34: x.pointsIn(a, b); break;
            case 35: x.lipsIn(a, b); break;
            case 36: x.tiredIn(a); break;
            case 37: x.changesIn(a, b); break;
            case 38: x.holding(a, b, c, d); break;
            case 39: x.holdingAt(a, b, c, d, e); break;
            case 40: x.best(a); break;
            case 41: x.bestLawns(a); break;
            case 42: x.low(a, b, c); break;
            case 43: x.game(a, b, c); break;
            case 44: x.moveOf(a, b, c); break;
            case 45: x.ally(a); break;
            case 46: x.stable(a); break;
            case 47: x.alliance(); break;
            case 48: x.together(a, b, c, d); break;
            case 49: x.fits(a, b, c); break;
            case 50: x.fitsAt(a, b, c, d); break;
            case 51: x.quiet(a, b, c, d); break;
            case 52: x.quietSteps(a, b, c, d); break;
            case 53: x.wet(a, b); break;
            case 54: x.live(a); break;
            case 55: x.lived(a); break;
            case 56: x.mean(a, b, c); break;
            case 57: x.mark(); break;
            case 58: x.back(); break;
            default: x.status();
        }
    }

    private static void wildOnNew() {
        for (int run = 0; run < 300; run++) {
            BandPark x = new BandPark();
            for (int i = 0; i < 512; i++) {
                any(x);
            }
        }
    }
}
