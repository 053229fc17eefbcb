import java.lang.reflect.Method;
import java.util.ArrayList;
import java.util.List;
import java.util.Random;
import java.util.TreeMap;
import java.util.TreeSet;

/** Random runs of calls, answered by the class and by the plain model alike. */
public final class ModelTest {
    private static final int RUNS = 250;
    private static final int CALLS = 500;
    private static final TreeMap<String, int[]> seen = new TreeMap<>();

    private final Random random;
    private final BandPark x = new BandPark();
    private final Model model = new Model();
    private final List<String> told = new ArrayList<>();
    private boolean failed = false;

    private ModelTest(long seed) {
        random = new Random(seed);
    }

    public static void main(String[] args) throws Exception {
        long first = args.length > 1 ? Long.parseLong(args[1]) : 1;
        int runs = args.length > 2 ? Integer.parseInt(args[2]) : RUNS;
        for (int run = 0; run < runs; run++) {
            ModelTest test = new ModelTest(first + run);
            test.run();
            if (test.failed) {
                System.out.println("run " + (first + run));
                break;
            }
        }
        if (args.length > 3) {
            seen.forEach((k, v) -> System.out.println(k + " " + v[0]));
        }
        Check.end();
    }

    private int below(int n) {
        return random.nextInt(n);
    }

    private boolean one(int of) {
        return below(of) == 0;
    }

    private <T> T of(List<T> list) {
        return list.get(below(list.size()));
    }

    // ---- texts

    /** In a fixed order, so that a run is the same each time. */
    private static final List<String> RESERVED = List.copyOf(new TreeSet<>(Model.RESERVED));

    private final List<String> names = List.of("march", "waltz", "polka", "reel", "jig", "hymn", "a", "bb", "ccc", "dddd",
        "eeeee", "ffffffff", "ggggggggg");

    /** Whether the text that is made now may have faults here and there. */
    private boolean loose = false;

    private boolean slips(int of) {
        return loose && one(of);
    }

    private int near(int least, int most) {
        return slips(50) ? most + 1 : slips(50) ? 0 : least + below(most - least + 1);
    }

    private String name(List<String> from) {
        return from.isEmpty() || slips(50) ? one(4) ? of(RESERVED) : of(names) : of(from);
    }

    private String parkText() {
        loose = one(3);
        // few levels make blurs
        boolean alike = one(3);
        StringBuilder s = new StringBuilder();
        int wide = near(1, 6);
        int deep = near(1, 5);
        List<String> tunes = new ArrayList<>();
        List<String> bands = new ArrayList<>();
        List<String> parts = new ArrayList<>();
        if (!one(3)) {
            parts.add("fade " + near(0, one(2) ? 3 : 9));
        }
        if (!one(3)) {
            parts.add("rest " + near(0, one(2) ? 3 : 9));
        }
        if (!one(3)) {
            parts.add("odds " + near(0, 16));
        }
        if (!one(50)) {
            parts.add(below(parts.size() + 1), "park " + wide + " by " + deep);
        }
        if (slips(40) && !parts.isEmpty()) {
            parts.add(of(parts));
        }
        int ponds = below(5);
        for (int i = 0; i < ponds; i++) {
            parts.add("pond " + below(wide + 1 - (slips(60) ? 0 : Math.min(1, wide))) + " " + below(Math.max(1, deep)));
        }
        int manyTunes = slips(20) ? 7 : one(10) ? 0 : 1 + below(6);
        for (int i = 0; i < manyTunes; i++) {
            String name = names.get(i);
            tunes.add(name);
            parts.add("tune " + (slips(40) ? name(tunes) : name) + " loud " + near(0, alike ? 2 : 20) + " toll " + near(0, one(2) ? 3 : 9)
                + (one(2) ? "" : " beats " + near(1, one(2) ? 12 : 99)));
        }
        int manyBands = slips(20) ? 7 : one(10) ? 0 : 1 + below(6);
        List<Integer> cells = new ArrayList<>();
        for (int i = 0; i < wide * deep; i++) {
            cells.add(i);
        }
        for (int i = 0; i < manyBands && !cells.isEmpty(); i++) {
            String name = "band" + (char) ('a' + i);
            bands.add(name);
            int cell = slips(40) ? cells.get(below(cells.size())) : cells.remove(below(cells.size()));
            StringBuilder band = new StringBuilder("band " + (slips(40) ? name(tunes) : name) + " at " + cell % wide + " " + cell / wide
                + " strength " + near(alike ? 6 : 0, alike ? 8 : 20) + " lips " + near(0, one(2) ? 12 : 99));
            int entries = one(5) ? 0 : slips(40) ? 7 : 1 + below(6);
            band.append(entries > 0 ? " plays" : "");
            for (int k = 0; k < entries; k++) {
                band.append(' ').append(one(5) || tunes.isEmpty() ? "hush" : name(tunes));
            }
            parts.add(band.toString());
        }
        for (String part : parts) {
            s.append(part).append(one(6) ? " ;" : ";").append(one(4) ? "\n" : one(3) ? " " : "");
        }
        return mutated(s.toString());
    }

    private String mutated(String text) {
        if (text.isEmpty() || !loose || !one(3)) {
            return text;
        }
        int at = below(text.length());
        String signs = ";<>= \nabz019!?A\u00e9";
        switch (below(4)) {
            case 0: return text.substring(0, at);
            case 1: return text.substring(0, at) + text.substring(at + 1);
            case 2: return text.substring(0, at) + signs.charAt(below(signs.length())) + text.substring(at + 1);
            default: return text.substring(0, at) + signs.charAt(below(signs.length())) + text.substring(at);
        }
    }

    private String bandName() {
        return model.park.bands.isEmpty() || slips(20) ? name(List.of()) : of(model.park.bands).name;
    }

    private String entryName() {
        return model.park.tunes.isEmpty() || one(5) ? slips(5) ? name(List.of()) : "hush" : of(model.park.tunes).name();
    }

    private void steps(StringBuilder s, int many, int depth) {
        for (int i = 0; i < many && s.length() < 290; i++) {
            switch (below(12)) {
                case 0: case 1: case 2: s.append("hour ").append(one(3) ? near(1, 20) : near(1, 4)).append(";"); break;
                case 3: s.append("wind ").append(near(0, 3)).append(";"); break;
                case 4: s.append("calm;"); break;
                case 5: s.append("rain;"); break;
                case 6: s.append("dry;"); break;
                case 7: if (model.park.bands.isEmpty() && !loose) {
                        break;
                    }
                    s.append("set ").append(bandName()).append(' ').append(near(0, 5)).append(' ').append(entryName()).append(";"); break;
                case 8: s.append("any;"); break;
                case 9: case 10:
                    if (depth < 3 || slips(10)) {
                        if (one(2) || model.park.bands.isEmpty() && !loose) {
                            s.append("loop ").append(one(3) ? near(1, 99) : near(1, 4)).append("; ");
                        } else if (one(3)) {
                            s.append("when raining;");
                        } else if (one(2)) {
                            s.append("when tired ").append(bandName()).append(";");
                        } else {
                            s.append("when holds ").append(bandName()).append(of(List.of("<", " > ", "= "))).append(near(0, one(3) ? 30 : 6)).append(";");
                        }
                        steps(s, below(5), depth + 1);
                        s.append("end;");
                    }
                    break;
                default: s.append(one(6) ? "stop;" : "any;\n"); break;
            }
        }
    }

    private String eveningsText() {
        loose = one(3);
        StringBuilder s = new StringBuilder();
        steps(s, slips(10) ? 31 : below(14), 0);
        return mutated(s.toString());
    }

    // ---- calls

    private void feed(String text) {
        byte[] bytes = new byte[(text.length() + 19) / 20 * 20];
        for (int i = 0; i < bytes.length; i++) {
            bytes[i] = (byte) (i < text.length() ? text.charAt(i) : ' ');
        }
        for (int i = 0; i < bytes.length; i += 20) {
            int[] v = new int[5];
            for (int k = 0; k < 20; k++) {
                v[k / 4] = v[k / 4] << 8 | bytes[i + k] & 255;
            }
            told.add("feed");
            same("feed", x.feed(v[0], v[1], v[2], v[3], v[4]), model.feed(v));
        }
    }

    private void same(String what, long got, long want) {
        Check.same(what, got, want);
        if (got != want && !failed) {
            failed = true;
            System.out.println(String.join("\n", told.subList(Math.max(0, told.size() - 60), told.size())));
        }
    }

    private static final List<Method> METHODS = new ArrayList<>();

    static {
        for (Method m : BandPark.class.getDeclaredMethods()) {
            boolean plain = List.of("status", "top", "bottom", "feed", "fault").contains(m.getName());
            if (java.lang.reflect.Modifier.isPublic(m.getModifiers()) && !plain) {
                METHODS.add(m);
            }
        }
        METHODS.sort((a, b) -> a.getName().compareTo(b.getName()));
    }

    private int argument(String call, int k) {
        if (one(120)) {
            return of(List.of(Integer.MIN_VALUE, Integer.MAX_VALUE, -1, 7, 60, 61, 100, 300, 1 << 30));
        }
        switch (call + k) {
            case "tray0": case "write0": case "read0": case "pour0": case "pour2": case "copyHeld0": case "fits1": case "fitsAt1":
                return one(20) ? below(6) - 1 : below(2) + (one(8) ? 2 : 0);
            case "tray1": return one(10) ? below(6) - 1 : one(2) ? 2 : below(4);
            case "tray2": return one(10) ? below(70) - 4 : 24 + below(14);
            case "write1": case "read1": case "pour1": case "pour3": case "pour4": return one(20) ? below(64) - 2 : below(14);
            case "fits2": case "fitsAt2": return one(10) ? below(64) - 2 : below(one(2) ? 4 : 12);
            case "fitsAt3": return below(one(10) ? 3 : 2);
            case "park0": case "evenings0": return below(30);
            case "many0": return below(16);
            case "hour0": return one(20) ? below(102) : 1 + below(4);
            case "hour1": return 0;
            case "holderIn2": case "pointsIn1": case "lipsIn1": return one(4) ? below(203) - 1 : below(12);
            case "holding3": return below(6);
            case "holdingAt3": return 1 + below(4);
            case "holdingAt4": return below(4);
            case "game2": case "moveOf2": return below(one(10) ? 5 : 4);
            case "ally0": case "stable0": return one(30) ? below(70) : below(1 << model.park.bands.size());
            case "together1": case "together3": return below(one(10) ? 110 : one(2) ? 100 : 12);
            case "live0": return below(one(20) ? 11000 : 10000);
            case "mean1": return below(one(20) ? 11000 : 10000);
            case "mean2": return one(6) ? below(23) : 1 + below(3);
            case "lived0": return below(6);
            case "wet0": case "wet1": return below(14);
            case "rule0": return one(20) ? below(9) : 4 + below(3);
            case "rule1": return below(one(10) ? 19 : 10);
            case "train1": return below(22);
            case "soothe1": return below(one(10) ? 100 : 12);
            case "wind0": return below(6);
            default: return small(call, k);
        }
    }

    /** A column, a row, a band, a tune, or what. */
    private int small(String call, int k) {
        if (one(40)) {
            return below(8) - 1;
        }
        Model.Park p = model.park;
        boolean band = k == 0 && List.of("band", "entry", "set", "drop", "move", "train", "soothe", "plays", "heard", "lawns", "ponds",
            "pointsIn", "lipsIn", "tiredIn", "holding", "holdingAt", "best", "bestLawns", "low", "game", "moveOf", "fits", "fitsAt",
            "mean").contains(call) || k == 1 && (call.equals("game") || call.equals("moveOf"));
        boolean tune = call.equals("tune") && k == 0 || call.equals("together") || call.equals("heard") && k == 1
            || call.equals("set") && k == 2;
        if (band) {
            return below(Math.max(1, p.bands.size()));
        }
        if (tune) {
            return one(6) ? 6 : below(Math.max(1, p.tunes.size()));
        }
        boolean cell = List.of("pond", "move", "dig", "heard", "loudest", "holder", "holderIn", "changesIn", "holding", "holdingAt", "low",
            "quiet", "quietSteps").contains(call);
        return cell ? below(Math.max(1, one(2) ? p.wide : p.deep)) : below(8);
    }

    private void call(Method m) throws Exception {
        Class<?>[] types = m.getParameterTypes();
        Object[] args = new Object[types.length];
        long[] plain = new long[types.length];
        StringBuilder text = new StringBuilder(m.getName()).append('(');
        for (int k = 0; k < types.length; k++) {
            if (types[k] == boolean.class) {
                plain[k] = below(2);
                args[k] = plain[k] == 1;
            } else if (types[k] == long.class) {
                plain[k] = one(3) ? random.nextLong() : one(20) ? below(5) - 2 : below(2);
                args[k] = plain[k];
            } else {
                plain[k] = argument(m.getName(), k);
                args[k] = (int) plain[k];
            }
            text.append(k > 0 ? ", " : "").append(plain[k]);
        }
        told.add(text.append(")").toString());
        Object answer = m.invoke(x, args);
        boolean isFlag = m.getReturnType() == boolean.class;
        long got = isFlag ? (Boolean) answer ? 1 : 0 : ((Number) answer).longValue();
        long want = model.ask(m.getName(), isFlag, plain);
        compare(told.get(told.size() - 1), m.getName(), got, want);
    }

    private void compare(String text, String call, long got, long want) {
        same(text, got, want);
        same(text + ": status", x.status(), model.status);
        same(text + ": top", x.top(), model.top.longValueExact());
        same(text + ": bottom", x.bottom(), model.bottom.longValueExact());
        for (int what = -1; what < 3; what++) {
            same(text + ": fault " + what, x.fault(what), model.fault(what));
        }
        seen.computeIfAbsent(call + " " + model.status, k -> new int[1])[0]++;
    }

    private void take(boolean isPark) {
        String text = isPark ? parkText() : eveningsText();
        if (isPark && text.length() > 900 - model.filled - 20) {
            return;
        }
        told.add((isPark ? "park: " : "evenings: ") + text);
        int ahead = model.filled;
        if (ahead > 0) {
            // whatever is on the tape is taken off first
            compare("off", "off", x.park(0), model.ask("park", false, 0));
        }
        feed(text);
        int n = text.length();
        String call = isPark ? "park" : "evenings";
        long got = isPark ? x.park(n) : x.evenings(n);
        compare(told.get(told.size() - 1), call, got, model.ask(call, false, n));
        if (model.status == 10) {
            seen.computeIfAbsent(call + " fault " + model.faultKind, k -> new int[1])[0]++;
        }
    }

    private void whole() {
        Model.Park p = model.park;
        for (int what = 0; what < 15; what++) {
            same("whole: many " + what, x.many(what), model.ask("many", false, what));
        }
        for (int b = 0; b < p.bands.size(); b++) {
            for (int what = 0; what < 7; what++) {
                same("whole: band " + what, x.band(b, what), model.ask("band", false, b, what));
            }
            for (int k = 0; k < p.bands.get(b).programme.size(); k++) {
                same("whole: entry " + k, x.entry(b, k), model.ask("entry", false, b, k));
            }
        }
    }

    private void run() throws Exception {
        take(true);
        for (int i = 0; i < CALLS && !failed; i++) {
            if (one(90)) {
                take(true);
            } else if (one(25)) {
                take(false);
            } else if (one(40)) {
                whole();
            } else {
                Method m = of(METHODS);
                boolean text = m.getName().equals("park") || m.getName().equals("evenings");
                if (!text || one(30)) {
                    call(m);
                }
            }
        }
        whole();
    }
}
