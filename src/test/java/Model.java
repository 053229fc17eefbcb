import java.math.BigInteger;
import java.util.ArrayDeque;
import java.util.ArrayList;
import java.util.Arrays;
import java.util.List;
import java.util.Set;
import java.util.TreeMap;
import java.util.TreeSet;

/**
 * The document once more, written for plainness with the whole library: no tables, nothing kept,
 * everything reckoned from the start at each call. ModelTest holds the class against it.
 */
final class Model {
    static final Set<String> RESERVED = Set.of("park", "by", "fade", "rest", "odds", "pond", "tune", "loud", "toll",
        "beats", "band", "at", "strength", "lips", "plays", "hush", "hour", "wind", "calm", "rain", "dry", "set",
        "any", "when", "holds", "tired", "raining", "loop", "end", "stop");

    static final class Fault extends RuntimeException {
        private static final long serialVersionUID = 1;
        final int kind;
        final int place;

        Fault(int kind, int place) {
            super(null, null, false, false);
            this.kind = kind;
            this.place = place;
        }
    }

    static final class No extends RuntimeException {
        private static final long serialVersionUID = 1;
        final int status;

        No(int status) {
            super(null, null, false, false);
            this.status = status;
        }
    }

    record Token(char sort, String text, int place) {
    }

    record Tune(String name, int loud, int toll, int beats) {
    }

    record Step(String word, String test, int who, char sign, int number, int entry, List<Step> block) {
    }

    static final class Band {
        String name;
        int column;
        int row;
        int strength;
        int lips;
        int most;
        int points;
        List<Integer> programme = new ArrayList<>();

        Band copy() {
            Band b = new Band();
            b.name = name;
            b.column = column;
            b.row = row;
            b.strength = strength;
            b.lips = lips;
            b.most = most;
            b.points = points;
            b.programme = new ArrayList<>(programme);
            return b;
        }
    }

    static final class Park {
        int wide;
        int deep;
        int fade = 2;
        int rest = 2;
        int odds = 4;
        int hour;
        int wind = 4;
        boolean rain;
        Set<List<Integer>> ponds = new TreeSet<>((a, b) -> a.toString().compareTo(b.toString()));
        List<Tune> tunes = new ArrayList<>();
        List<Band> bands = new ArrayList<>();
        List<Step> evenings;

        Park copy() {
            Park p = new Park();
            p.wide = wide;
            p.deep = deep;
            p.fade = fade;
            p.rest = rest;
            p.odds = odds;
            p.hour = hour;
            p.wind = wind;
            p.rain = rain;
            p.ponds.addAll(ponds);
            p.tunes.addAll(tunes);
            for (Band b : bands) {
                p.bands.add(b.copy());
            }
            p.evenings = evenings;
            return p;
        }

        int wants(int b) {
            List<Integer> programme = bands.get(b).programme;
            return programme.isEmpty() ? 6 : programme.get(hour % programme.size());
        }

        boolean tired(int b) {
            int tune = wants(b);
            return tune != 6 && bands.get(b).lips < tunes.get(tune).toll;
        }

        int plays(int b) {
            return tired(b) ? 6 : wants(b);
        }

        int[] playsAll() {
            int[] all = new int[bands.size()];
            for (int b = 0; b < all.length; b++) {
                all[b] = plays(b);
            }
            return all;
        }

        int heard(int b, int tune, int column, int row) {
            if (tune == 6) {
                return 0;
            }
            int level = bands.get(b).strength + tunes.get(tune).loud - (rain ? 2 : 0);
            // walk there a step at a time
            int c = bands.get(b).column;
            int r = bands.get(b).row;
            while (c != column || r != row) {
                int way;
                if (c < column) {
                    way = 0;
                    c++;
                } else if (c > column) {
                    way = 2;
                    c--;
                } else if (r < row) {
                    way = 1;
                    r++;
                } else {
                    way = 3;
                    r--;
                }
                int less = fade;
                if (wind == way) {
                    less = Math.max(0, fade - 1);
                } else if (wind != 4 && wind == (way ^ 2)) {
                    less = fade + 1;
                }
                level -= less;
            }
            return Math.max(0, level);
        }

        /** -1 silent, -2 a blur. */
        int holder(int[] plays, int column, int row) {
            TreeMap<Integer, List<Integer>> by = new TreeMap<>();
            for (int b = 0; b < bands.size(); b++) {
                by.computeIfAbsent(heard(b, plays[b], column, row), k -> new ArrayList<>()).add(b);
            }
            if (by.isEmpty() || by.lastKey() == 0) {
                return -1;
            }
            List<Integer> most = by.lastEntry().getValue();
            return most.size() == 1 ? most.get(0) : -2;
        }

        int lawns(int[] plays, int b) {
            int n = 0;
            for (int row = 0; row < deep; row++) {
                for (int column = 0; column < wide; column++) {
                    if (holder(plays, column, row) == b) {
                        n++;
                    }
                }
            }
            return n;
        }

        int count(int who) {
            return lawns(playsAll(), who);
        }

        int loudest(int column, int row) {
            int most = 0;
            for (int b = 0; b < bands.size(); b++) {
                most = Math.max(most, heard(b, plays(b), column, row));
            }
            return most;
        }

        int pass() {
            int[] plays = playsAll();
            int all = 0;
            for (int row = 0; row < deep; row++) {
                for (int column = 0; column < wide; column++) {
                    int who = holder(plays, column, row);
                    if (who >= 0) {
                        int much = ponds.contains(List.of(column, row)) ? 3 : 1;
                        bands.get(who).points += much;
                        all += much;
                    }
                }
            }
            for (int b = 0; b < plays.length; b++) {
                Band band = bands.get(b);
                band.lips = plays[b] == 6 ? Math.min(band.most, band.lips + rest) : band.lips - tunes.get(plays[b]).toll;
            }
            hour++;
            return all;
        }

        Park in(int hours) {
            Park p = copy();
            for (int i = 0; i < hours; i++) {
                p.pass();
            }
            return p;
        }
    }

    // ---- reading

    static final class Reader {
        final List<Token> tokens = new ArrayList<>();
        int at = 0;

        Reader(byte[] bytes, int n) {
            int i = 0;
            while (i < n) {
                char c = (char) (bytes[i] & 255);
                int from = i;
                if (c == 10 || c == 32) {
                    i++;
                } else if (c >= 'a' && c <= 'z') {
                    while (i < n && bytes[i] >= 'a' && bytes[i] <= 'z') {
                        i++;
                    }
                    tokens.add(new Token('w', text(bytes, from, i), from));
                } else if (c >= '0' && c <= '9') {
                    while (i < n && bytes[i] >= '0' && bytes[i] <= '9') {
                        i++;
                    }
                    tokens.add(new Token(i - from > 4 ? '!' : 'n', text(bytes, from, i), from));
                } else {
                    i++;
                    tokens.add(new Token(";<>=".indexOf(c) >= 0 ? 's' : '!', "" + c, from));
                }
            }
            tokens.add(new Token('e', "", n));
        }

        private static String text(byte[] bytes, int from, int to) {
            StringBuilder s = new StringBuilder();
            for (int i = from; i < to; i++) {
                s.append((char) bytes[i]);
            }
            return s.toString();
        }

        Token peek() {
            Token t = tokens.get(at);
            if (t.sort == '!') {
                throw new Fault(1, t.place);
            }
            return t;
        }

        boolean atEnd() {
            return peek().sort == 'e';
        }

        boolean is(String text) {
            return peek().sort != 'e' && peek().text.equals(text);
        }

        void fail(int kind) {
            throw new Fault(kind, peek().place);
        }

        void need(String text) {
            if (!is(text)) {
                fail(2);
            }
            at++;
        }

        int number(int least, int most) {
            if (peek().sort != 'n') {
                fail(2);
            }
            int v = Integer.parseInt(peek().text);
            if (v < least || v > most) {
                fail(4);
            }
            at++;
            return v;
        }

        String name() {
            Token t = peek();
            if (t.sort != 'w' || t.text.length() > 8 || RESERVED.contains(t.text)) {
                fail(2);
            }
            return t.text;
        }
    }

    static int indexOfTune(Park p, String name) {
        for (int i = 0; i < p.tunes.size(); i++) {
            if (p.tunes.get(i).name.equals(name)) {
                return i;
            }
        }
        return -1;
    }

    static int indexOfBand(Park p, String name) {
        for (int i = 0; i < p.bands.size(); i++) {
            if (p.bands.get(i).name.equals(name)) {
                return i;
            }
        }
        return -1;
    }

    static int entry(Reader r, Park p) {
        if (r.is("hush")) {
            return 6;
        }
        int tune = indexOfTune(p, r.name());
        if (tune < 0) {
            r.fail(3);
        }
        return tune;
    }

    static Park readPark(byte[] bytes, int n) {
        Reader r = new Reader(bytes, n);
        Park p = new Park();
        Set<String> told = new TreeSet<>();
        while (!r.atEnd()) {
            String word = r.peek().sort == 'w' ? r.peek().text : "?";
            if (Set.of("park", "fade", "rest", "odds").contains(word)) {
                if (!told.add(word)) {
                    r.fail(5);
                }
                r.at++;
                if (word.equals("park")) {
                    p.wide = r.number(1, 6);
                    r.need("by");
                    p.deep = r.number(1, 5);
                } else if (word.equals("fade")) {
                    p.fade = r.number(0, 9);
                } else if (word.equals("rest")) {
                    p.rest = r.number(0, 9);
                } else {
                    p.odds = r.number(0, 16);
                }
            } else if (word.equals("pond") && told.contains("park")) {
                r.at++;
                int column = r.number(0, p.wide - 1);
                p.ponds.add(List.of(column, r.number(0, p.deep - 1)));
            } else if (word.equals("tune")) {
                readTune(r, p);
            } else if (word.equals("band") && told.contains("park")) {
                readBand(r, p);
            } else {
                r.fail(2);
            }
            r.need(";");
        }
        return p;
    }

    static String newName(Reader r, Park p) {
        String name = r.name();
        if (indexOfTune(p, name) >= 0 || indexOfBand(p, name) >= 0) {
            r.fail(3);
        }
        r.at++;
        return name;
    }

    static void readTune(Reader r, Park p) {
        if (p.tunes.size() == 6) {
            r.fail(6);
        }
        r.at++;
        String name = newName(r, p);
        r.need("loud");
        int loud = r.number(0, 20);
        r.need("toll");
        int toll = r.number(0, 9);
        int beats = 4;
        if (r.is("beats")) {
            r.at++;
            beats = r.number(1, 99);
        }
        p.tunes.add(new Tune(name, loud, toll, beats));
    }

    static void readBand(Reader r, Park p) {
        if (p.bands.size() == 6) {
            r.fail(6);
        }
        r.at++;
        Band b = new Band();
        b.name = newName(r, p);
        r.need("at");
        b.column = r.number(0, p.wide - 1);
        b.row = r.number(0, p.deep - 1);
        for (Band other : p.bands) {
            if (other.column == b.column && other.row == b.row) {
                r.at--;
                r.fail(5);
            }
        }
        r.need("strength");
        b.strength = r.number(0, 20);
        r.need("lips");
        b.most = r.number(0, 99);
        b.lips = b.most;
        if (r.is("plays")) {
            r.at++;
            do {
                int e = entry(r, p);
                if (b.programme.size() == 6) {
                    r.fail(6);
                }
                b.programme.add(e);
                r.at++;
            } while (!r.is(";") && !r.atEnd());
        }
        p.bands.add(b);
    }

    private int stepsRead;

    List<Step> readSteps(Reader r, Park p, int within) {
        List<Step> steps = new ArrayList<>();
        while (true) {
            if (within == 0 && r.atEnd()) {
                return steps;
            }
            if (within > 0 && r.is("end")) {
                return steps;
            }
            String word = r.peek().sort == 'w' ? r.peek().text : "?";
            if (!Set.of("hour", "wind", "calm", "rain", "dry", "set", "any", "when", "loop", "stop").contains(word)) {
                r.fail(2);
            }
            if (stepsRead == 30) {
                r.fail(6);
            }
            boolean opens = word.equals("when") || word.equals("loop");
            if (opens && within == 3) {
                r.fail(7);
            }
            stepsRead++;
            r.at++;
            String test = "";
            int who = -1;
            char sign = ' ';
            int number = 0;
            int e = 6;
            List<Step> block = null;
            switch (word) {
                case "hour" -> number = r.number(1, 20);
                case "wind" -> number = r.number(0, 3);
                case "loop" -> number = r.number(1, 99);
                case "set" -> {
                    who = bandHere(r, p);
                    number = r.number(0, 5);
                    e = entry(r, p);
                    r.at++;
                }
                case "when" -> {
                    test = r.peek().text;
                    if (!r.is("holds") && !r.is("tired") && !r.is("raining")) {
                        r.fail(2);
                    }
                    r.at++;
                    if (!test.equals("raining")) {
                        who = bandHere(r, p);
                    }
                    if (test.equals("holds")) {
                        if (!r.is("<") && !r.is(">") && !r.is("=")) {
                            r.fail(2);
                        }
                        sign = r.peek().text.charAt(0);
                        r.at++;
                        number = r.number(0, 30);
                    }
                }
                default -> {
                }
            }
            r.need(";");
            if (opens) {
                block = readSteps(r, p, within + 1);
                r.need("end");
                r.need(";");
            }
            steps.add(new Step(word, test, who, sign, number, e, block));
        }
    }

    static int bandHere(Reader r, Park p) {
        int who = indexOfBand(p, r.name());
        if (who < 0) {
            r.fail(3);
        }
        r.at++;
        return who;
    }

    // ---- the object

    int status = 0;
    BigInteger top = BigInteger.ZERO;
    BigInteger bottom = BigInteger.ONE;
    long[][] trays = new long[4][];
    int[] sorts = new int[4];
    byte[] tape = new byte[900];
    int filled = 0;
    int faultKind = -1;
    int faultPlace = -1;
    Park park = new Park();
    ArrayDeque<Park> marks = new ArrayDeque<>();
    int[] lived = null;

    static void when(boolean wrong, int status) {
        if (wrong) {
            throw new No(status);
        }
    }

    void noTray(int t) {
        when(t < 0 || t > 3, 1);
    }

    void noCell(int c, int r) {
        when(c < 0 || c >= park.wide || r < 0 || r >= park.deep, 2);
    }

    void noBand(int b) {
        when(b < 0 || b >= park.bands.size(), 2);
    }

    void noTune(int t) {
        when(t < 0 || t >= park.tunes.size(), 2);
    }

    void noEntry(int t) {
        when(t != 6 && (t < 0 || t >= park.tunes.size()), 2);
    }

    void fraction(BigInteger a, BigInteger b) {
        BigInteger g = a.gcd(b);
        top = a.divide(g);
        bottom = b.divide(g);
    }

    static long cut(int sort, long v) {
        return sort == 0 ? (byte) v : sort == 1 ? (short) v : sort == 2 ? (int) v : v;
    }

    long feed(int... five) {
        if (filled + 20 > 900) {
            return -1;
        }
        for (int v : five) {
            for (int i = 3; i >= 0; i--) {
                tape[filled++] = (byte) (v >> 8 * i);
            }
        }
        return filled;
    }

    long fault(int what) {
        return what == 0 ? faultKind : what == 1 ? faultPlace : -1;
    }

    /** The answer of a call that has a STATUS; a boolean counts 1 or 0. */
    long ask(String call, boolean isFlag, long... a) {
        try {
            long answer = answer(call, a);
            status = 0;
            return answer;
        } catch (No no) {
            status = no.status;
            return isFlag ? 0 : -1;
        }
    }

    private long answer(String call, long[] a) {
        int[] i = new int[5];
        for (int k = 0; k < a.length; k++) {
            i[k] = (int) a[k];
        }
        switch (call) {
            case "tray": {
                noTray(i[0]);
                when(i[1] < 0 || i[1] > 3, 1);
                when(i[2] > 60, 5);
                when(i[2] < 0, 6);
                trays[i[0]] = new long[i[2]];
                sorts[i[0]] = i[1];
                return 1;
            }
            case "write":
            case "read": {
                noTray(i[0]);
                when(trays[i[0]] == null, 3);
                when(i[1] < 0 || i[1] >= trays[i[0]].length, 4);
                if (call.equals("read")) {
                    return trays[i[0]][i[1]];
                }
                trays[i[0]][i[1]] = cut(sorts[i[0]], a[2]);
                return 1;
            }
            case "pour": {
                noTray(i[0]);
                noTray(i[2]);
                when(trays[i[0]] == null || trays[i[2]] == null, 3);
                when(sorts[i[0]] != sorts[i[2]], 11);
                when(i[4] < 0, 6);
                when(i[1] < 0 || (long) i[1] + i[4] > trays[i[0]].length, 4);
                when(i[3] < 0 || (long) i[3] + i[4] > trays[i[2]].length, 4);
                long[] kept = trays[i[0]].clone();
                for (int k = 0; k < i[4]; k++) {
                    trays[i[2]][i[3] + k] = kept[i[1] + k];
                }
                return 1;
            }
            case "park":
            case "evenings": {
                boolean isPark = call.equals("park");
                when(i[0] < 0 || i[0] > filled || !isPark && i[0] > 300, 5);
                filled = 0;
                faultKind = 0;
                faultPlace = -1;
                try {
                    if (isPark) {
                        park = readPark(tape, i[0]);
                        return park.bands.size();
                    }
                    stepsRead = 0;
                    park.evenings = readSteps(new Reader(tape, i[0]), park, 0);
                    return stepsRead;
                } catch (Fault f) {
                    faultKind = f.kind;
                    faultPlace = f.place;
                    throw new No(10);
                }
            }
            default:
                return answerMore(call, i);
        }
    }

    private long answerMore(String call, int[] i) {
        Park p = park;
        switch (call) {
            case "many": {
                when(i[0] < 0 || i[0] > 14, 5);
                int playing = 0;
                int tired = 0;
                for (int b = 0; b < p.bands.size(); b++) {
                    playing |= p.plays(b) != 6 ? 1 << b : 0;
                    tired |= p.tired(b) ? 1 << b : 0;
                }
                int[] all = {p.wide, p.deep, p.tunes.size(), p.bands.size(), p.fade, p.rest, p.odds, p.hour, p.wind,
                    p.rain ? 1 : 0, p.ponds.size(), p.count(-2), p.count(-1), playing, tired};
                return all[i[0]];
            }
            case "tune": {
                noTune(i[0]);
                when(i[1] < 0 || i[1] > 2, 5);
                Tune t = p.tunes.get(i[0]);
                return new int[] {t.loud, t.toll, t.beats}[i[1]];
            }
            case "band": {
                noBand(i[0]);
                when(i[1] < 0 || i[1] > 6, 5);
                Band b = p.bands.get(i[0]);
                return new int[] {b.column, b.row, b.strength, b.lips, b.most, b.points, b.programme.size()}[i[1]];
            }
            case "entry": {
                noBand(i[0]);
                List<Integer> programme = p.bands.get(i[0]).programme;
                when(i[1] < 0 || i[1] >= programme.size(), 8);
                return programme.get(i[1]);
            }
            case "pond":
                noCell(i[0], i[1]);
                return p.ponds.contains(List.of(i[0], i[1])) ? 1 : 0;
            case "hour": {
                when(i[0] < 1 || i[0] > 99, 5);
                when(p.hour + i[0] > 9999, 7);
                int all = 0;
                for (int k = 0; k < i[0]; k++) {
                    all += p.pass();
                }
                return all;
            }
            case "wind":
                when(i[0] < 0 || i[0] > 4, 5);
                when(i[0] == p.wind, 9);
                p.wind = i[0];
                return 1;
            case "rain":
                when(p.rain == (i[0] != 0), 9);
                p.rain = i[0] != 0;
                return 1;
            case "set": {
                noBand(i[0]);
                noEntry(i[2]);
                List<Integer> programme = p.bands.get(i[0]).programme;
                when(i[1] < 0 || i[1] > 5 || i[1] > programme.size(), 5);
                if (i[1] == programme.size()) {
                    programme.add(i[2]);
                } else {
                    programme.set(i[1], i[2]);
                }
                return programme.size();
            }
            case "drop": {
                noBand(i[0]);
                List<Integer> programme = p.bands.get(i[0]).programme;
                when(programme.isEmpty(), 8);
                programme.remove(programme.size() - 1);
                return programme.size();
            }
            case "move":
                noBand(i[0]);
                noCell(i[1], i[2]);
                for (Band b : p.bands) {
                    when(b.column == i[1] && b.row == i[2], 9);
                }
                p.bands.get(i[0]).column = i[1];
                p.bands.get(i[0]).row = i[2];
                return 1;
            case "train":
                noBand(i[0]);
                when(i[1] < 0 || i[1] > 20, 5);
                p.bands.get(i[0]).strength = i[1];
                return 1;
            case "soothe":
                noBand(i[0]);
                when(i[1] < 0 || i[1] > p.bands.get(i[0]).most, 5);
                p.bands.get(i[0]).lips = i[1];
                return 1;
            case "rule":
                when(i[0] < 4 || i[0] > 6, 5);
                when(i[1] < 0 || i[1] > (i[0] == 6 ? 16 : 9), 5);
                if (i[0] == 4) {
                    p.fade = i[1];
                } else if (i[0] == 5) {
                    p.rest = i[1];
                } else {
                    p.odds = i[1];
                }
                return 1;
            case "dig":
                noCell(i[0], i[1]);
                when(p.ponds.contains(List.of(i[0], i[1])) == (i[2] != 0), 9);
                if (i[2] != 0) {
                    p.ponds.add(List.of(i[0], i[1]));
                } else {
                    p.ponds.remove(List.of(i[0], i[1]));
                }
                return 1;
            default:
                return answerNow(call, i);
        }
    }

    static long holder(Park p, int column, int row) {
        int who = p.holder(p.playsAll(), column, row);
        when(who == -1, 8);
        when(who == -2, 9);
        return who;
    }

    private long answerNow(String call, int[] i) {
        Park p = park;
        switch (call) {
            case "plays":
                noBand(i[0]);
                return p.plays(i[0]);
            case "heard":
                noBand(i[0]);
                noEntry(i[1]);
                noCell(i[2], i[3]);
                return p.heard(i[0], i[1], i[2], i[3]);
            case "loudest":
                noCell(i[0], i[1]);
                return p.loudest(i[0], i[1]);
            case "holder":
                noCell(i[0], i[1]);
                return holder(p, i[0], i[1]);
            case "lawns":
                noBand(i[0]);
                return p.count(i[0]);
            case "ponds": {
                noBand(i[0]);
                when(p.ponds.isEmpty(), 8);
                int held = 0;
                for (List<Integer> cell : p.ponds) {
                    held += p.holder(p.playsAll(), cell.get(0), cell.get(1)) == i[0] ? 1 : 0;
                }
                fraction(BigInteger.valueOf(held), BigInteger.valueOf(p.ponds.size()));
                return 1;
            }
            case "copyHeld": {
                noTray(i[0]);
                when(trays[i[0]] == null, 3);
                when(trays[i[0]].length < p.wide * p.deep, 4);
                for (int cell = 0; cell < p.wide * p.deep; cell++) {
                    trays[i[0]][cell] = Math.max(-1, p.holder(p.playsAll(), cell % p.wide, cell / p.wide));
                }
                return p.wide * p.deep;
            }
            case "holderIn":
                noCell(i[0], i[1]);
                when(i[2] < 0 || i[2] > 200, 5);
                return holder(p.in(i[2]), i[0], i[1]);
            case "pointsIn":
                noBand(i[0]);
                when(i[1] < 0 || i[1] > 200, 5);
                return p.in(i[1]).bands.get(i[0]).points;
            case "lipsIn":
                noBand(i[0]);
                when(i[1] < 0 || i[1] > 200, 5);
                return p.in(i[1]).bands.get(i[0]).lips;
            case "tiredIn": {
                noBand(i[0]);
                Park q = p.copy();
                for (int h = 0; h <= 200; h++, q.pass()) {
                    if (q.tired(i[0])) {
                        return h;
                    }
                }
                throw new No(8);
            }
            case "changesIn": {
                noCell(i[0], i[1]);
                int first = Math.max(-1, p.holder(p.playsAll(), i[0], i[1]));
                Park q = p.copy();
                for (int h = 0; h <= 200; h++, q.pass()) {
                    if (Math.max(-1, q.holder(q.playsAll(), i[0], i[1])) != first) {
                        return h;
                    }
                }
                throw new No(8);
            }
            default:
                return answerTunes(call, i);
        }
    }

    /** All rows of n entries in the order of the document, the first with the most hours. */
    private int[] bestRow(int band, int column, int row, int n) {
        List<Integer> entries = new ArrayList<>();
        for (int t = 0; t < park.tunes.size(); t++) {
            entries.add(t);
        }
        entries.add(6);
        int[] best = null;
        int rows = (int) Math.pow(entries.size(), n);
        Park[] ahead = new Park[n];
        for (int h = 0; h < n; h++) {
            ahead[h] = park.in(h);
        }
        for (int code = 0; code < rows; code++) {
            int[] tried = new int[n + 1];
            int rest = code;
            for (int k = n - 1; k >= 0; k--) {
                tried[k] = entries.get(rest % entries.size());
                rest /= entries.size();
            }
            int lips = park.bands.get(band).lips;
            for (int k = 0; k < n; k++) {
                int toll = tried[k] == 6 ? 0 : park.tunes.get(tried[k]).toll;
                int played = lips >= toll ? tried[k] : 6;
                int[] plays = ahead[k].playsAll();
                plays[band] = played;
                tried[n] += ahead[k].holder(plays, column, row) == band ? 1 : 0;
                lips = played == 6 ? Math.min(park.bands.get(band).most, lips + park.rest) : lips - toll;
            }
            if (best == null || tried[n] > best[n]) {
                best = tried;
            }
        }
        return best;
    }

    private int value(int[] plays, int first, int second, int turns, int turn) {
        if (turn == turns) {
            return park.lawns(plays, first) - park.lawns(plays, second);
        }
        boolean isFirst = turn % 2 == 0;
        int who = isFirst ? first : second;
        int best = value(plays, first, second, turns, turn + 1);
        for (int t = 0; t <= park.tunes.size(); t++) {
            int[] changed = plays.clone();
            changed[who] = t == park.tunes.size() ? 6 : t;
            int v = value(changed, first, second, turns, turn + 1);
            best = isFirst ? Math.max(best, v) : Math.min(best, v);
        }
        return best;
    }

    private long moveOf(int first, int second, int turns) {
        int[] plays = park.playsAll();
        int best = value(plays, first, second, turns, 0);
        for (int t = 0; t <= park.tunes.size(); t++) {
            int e = t == park.tunes.size() ? 6 : t;
            int[] changed = plays.clone();
            changed[first] = e;
            if (e != plays[first] && value(changed, first, second, turns, 1) == best) {
                return e;
            }
        }
        throw new No(8);
    }

    private int ally(int set) {
        int n = 0;
        for (int row = 0; row < park.deep; row++) {
            for (int column = 0; column < park.wide; column++) {
                int together = 0;
                boolean most = true;
                for (int b = 0; b < park.bands.size(); b++) {
                    together += (set & 1 << b) != 0 ? park.heard(b, park.plays(b), column, row) : 0;
                }
                for (int b = 0; b < park.bands.size(); b++) {
                    most &= (set & 1 << b) != 0 || together > park.heard(b, park.plays(b), column, row);
                }
                n += most && together > 0 ? 1 : 0;
            }
        }
        return n;
    }

    private boolean stable(int set) {
        for (int b = 0; b < park.bands.size(); b++) {
            if ((set & 1 << b) != 0 && (double) ally(set) / Integer.bitCount(set) < park.count(b) - 1e-9) {
                return false;
            }
        }
        return true;
    }

    private void noSet(int set) {
        when(set < 0 || set >= Math.pow(2, park.bands.size()), 5);
    }

    private long answerTunes(String call, int[] i) {
        Park p = park;
        switch (call) {
            case "holding":
            case "holdingAt": {
                noBand(i[0]);
                noCell(i[1], i[2]);
                when(i[3] < 1 || i[3] > 4, 5);
                boolean at = call.equals("holdingAt");
                when(at && (i[4] < 0 || i[4] >= i[3]), 8);
                return bestRow(i[0], i[1], i[2], i[3])[at ? i[4] : i[3]];
            }
            case "best":
            case "bestLawns": {
                noBand(i[0]);
                when(p.tunes.isEmpty(), 8);
                int best = -1;
                int most = -1;
                for (int t = 0; t < p.tunes.size(); t++) {
                    int[] plays = p.playsAll();
                    plays[i[0]] = t;
                    if (p.lawns(plays, i[0]) > most) {
                        most = p.lawns(plays, i[0]);
                        best = t;
                    }
                }
                return call.equals("best") ? best : most;
            }
            case "low": {
                noBand(i[0]);
                noCell(i[1], i[2]);
                TreeSet<Integer> tolls = new TreeSet<>();
                for (int t = 0; t < p.tunes.size(); t++) {
                    int[] plays = p.playsAll();
                    plays[i[0]] = t;
                    if (p.holder(plays, i[1], i[2]) == i[0]) {
                        tolls.add(p.tunes.get(t).toll);
                    }
                }
                when(tolls.isEmpty(), 8);
                return tolls.first();
            }
            case "game":
            case "moveOf": {
                boolean move = call.equals("moveOf");
                noBand(i[0]);
                noBand(i[1]);
                when(i[0] == i[1] || i[2] < (move ? 1 : 0) || i[2] > 3, 5);
                return move ? moveOf(i[0], i[1], i[2]) : value(p.playsAll(), i[0], i[1], i[2], 0);
            }
            case "ally":
                noSet(i[0]);
                return ally(i[0]);
            case "stable":
                noSet(i[0]);
                when(i[0] == 0, 5);
                return stable(i[0]) ? 1 : 0;
            case "alliance": {
                int best = -1;
                for (int set = 1; set < 1 << p.bands.size(); set++) {
                    boolean more = best < 0 || ally(set) > ally(best);
                    if (Integer.bitCount(set) > 1 && more && stable(set)) {
                        best = set;
                    }
                }
                when(best < 0, 8);
                return best;
            }
            case "together": {
                noTune(i[0]);
                noTune(i[2]);
                when(i[1] < 0 || i[1] > 99 || i[3] < 0 || i[3] > 99, 5);
                boolean[] bars = new boolean[20000];
                for (int beat = i[1]; beat < bars.length; beat += p.tunes.get(i[0]).beats) {
                    bars[beat] = true;
                }
                for (int beat = i[3]; beat < bars.length; beat += p.tunes.get(i[2]).beats) {
                    if (bars[beat]) {
                        return beat;
                    }
                }
                throw new No(8);
            }
            default:
                return answerRest(call, i);
        }
    }

    private List<Integer> fitting(int band, long[] tray, int n) {
        List<Integer> found = new ArrayList<>();
        for (int lips = 0; lips <= park.bands.get(band).most; lips++) {
            Park p = park.copy();
            p.hour = 0;
            p.bands.get(band).lips = lips;
            boolean fits = true;
            for (int h = 0; h < n; h++, p.pass()) {
                fits &= (p.plays(band) != 6) == (tray[h] == 1);
            }
            if (fits) {
                found.add(lips);
            }
        }
        return found;
    }

    /** The loudest level and the steps of the quiet way, by widening until nothing changes. */
    private int[] quiet(int from, int to) {
        Park p = park;
        int cells = p.wide * p.deep;
        for (int level = 0;; level++) {
            int[] steps = new int[cells];
            Arrays.fill(steps, 99);
            if (p.loudest(from % p.wide, from / p.wide) <= level) {
                steps[from] = 0;
            }
            boolean changed = true;
            while (changed) {
                changed = false;
                for (int a = 0; a < cells; a++) {
                    for (int b = 0; b < cells; b++) {
                        int apart = Math.abs(a % p.wide - b % p.wide) + Math.abs(a / p.wide - b / p.wide);
                        if (apart == 1 && steps[a] + 1 < steps[b] && p.loudest(b % p.wide, b / p.wide) <= level) {
                            steps[b] = steps[a] + 1;
                            changed = true;
                        }
                    }
                }
            }
            if (steps[to] < 99) {
                return new int[] {level, steps[to]};
            }
        }
    }

    private long answerRest(String call, int[] i) {
        Park p = park;
        switch (call) {
            case "fits":
            case "fitsAt": {
                noTray(i[1]);
                noBand(i[0]);
                when(trays[i[1]] == null, 3);
                when(i[2] > trays[i[1]].length, 4);
                when(i[2] < 0 || i[2] > 24, 5);
                for (int k = 0; k < i[2]; k++) {
                    when(trays[i[1]][k] != 0 && trays[i[1]][k] != 1, 5);
                }
                boolean at = call.equals("fitsAt");
                when(at && i[3] != 0 && i[3] != 1, 5);
                List<Integer> found = fitting(i[0], trays[i[1]], i[2]);
                if (!at) {
                    return found.size();
                }
                when(found.isEmpty(), 8);
                return found.get(i[3] == 0 ? 0 : found.size() - 1);
            }
            case "quiet":
            case "quietSteps":
                noCell(i[0], i[1]);
                noCell(i[2], i[3]);
                return quiet(i[1] * p.wide + i[0], i[3] * p.wide + i[2])[call.equals("quiet") ? 0 : 1];
            case "wet": {
                when(i[0] < 0 || i[0] > 12 || i[1] < 0 || i[1] > 12, 5);
                BigInteger ways = BigInteger.ZERO;
                for (int set = 0; set < 1 << i[0]; set++) {
                    int wet = Integer.bitCount(set);
                    if (wet >= i[1]) {
                        ways = ways.add(BigInteger.valueOf(p.odds).pow(wet)
                            .multiply(BigInteger.valueOf(16 - p.odds).pow(i[0] - wet)));
                    }
                }
                fraction(ways, BigInteger.valueOf(16).pow(i[0]));
                return 1;
            }
            case "live": {
                when(i[0] < 0 || i[0] > 9999, 5);
                when(p.evenings == null, 8);
                Live live = new Live(p, i[0]);
                live.all();
                lived = live.tallies;
                return live.done;
            }
            case "lived":
                when(i[0] < 0 || i[0] > 4, 5);
                when(lived == null, 8);
                return lived[i[0]];
            case "mean": {
                noBand(i[0]);
                when(i[1] < 0 || i[2] < 1 || i[2] > 20 || (long) i[1] + i[2] - 1 > 9999, 5);
                when(p.evenings == null, 8);
                int sum = 0;
                for (int k = 0; k < i[2]; k++) {
                    Park q = p.copy();
                    new Live(q, i[1] + k).all();
                    sum += q.bands.get(i[0]).points;
                }
                fraction(BigInteger.valueOf(sum), BigInteger.valueOf(i[2]));
                return 1;
            }
            case "mark":
                when(marks.size() == 3, 7);
                marks.push(p.copy());
                return marks.size();
            case "back":
                when(marks.isEmpty(), 8);
                park = marks.pop();
                return marks.size();
            default:
                throw new IllegalStateException(call);
        }
    }

    static final class Live {
        private static final class Ended extends RuntimeException {
            private static final long serialVersionUID = 1;

            Ended() {
                super(null, null, false, false);
            }
        }

        final Park p;
        long s;
        int done = 0;
        final int[] tallies = new int[5];

        Live(Park p, int seed) {
            this.p = p;
            s = seed;
        }

        void all() {
            try {
                block(p.evenings);
            } catch (Ended e) {
                return;
            }
        }

        private void block(List<Step> steps) {
            for (Step step : steps) {
                if (done == 300) {
                    tallies[4] = 1;
                    throw new Ended();
                }
                done++;
                step(step);
            }
        }

        private int draw(int by) {
            s = (s * 2971 + 10781) % 65536;
            return (int) (s / 8 % by);
        }

        private void miss(boolean missed) {
            tallies[0] += missed ? 1 : 0;
        }

        private void step(Step step) {
            switch (step.word) {
                case "hour" -> {
                    boolean missed = p.hour + step.number > 9999;
                    miss(missed);
                    for (int h = 0; h < step.number && !missed; h++) {
                        for (int b = 0; b < p.bands.size(); b++) {
                            tallies[3] += p.tired(b) ? 1 : 0;
                        }
                        tallies[1]++;
                        tallies[2] += p.pass();
                    }
                }
                case "wind" -> {
                    miss(p.wind == step.number);
                    p.wind = step.number;
                }
                case "calm" -> {
                    miss(p.wind == 4);
                    p.wind = 4;
                }
                case "rain" -> {
                    miss(p.rain);
                    p.rain = true;
                }
                case "dry" -> {
                    miss(!p.rain);
                    p.rain = false;
                }
                case "set" -> {
                    List<Integer> programme = p.bands.get(step.who).programme;
                    if (step.number < programme.size()) {
                        programme.set(step.number, step.entry);
                    } else {
                        miss(true);
                    }
                }
                case "any" -> {
                    p.rain = draw(16) < p.odds;
                    p.wind = draw(5);
                }
                case "when" -> {
                    if (so(step)) {
                        block(step.block);
                    }
                }
                case "loop" -> {
                    for (int k = 0; k < step.number; k++) {
                        block(step.block);
                    }
                }
                default -> throw new Ended();
            }
        }

        private boolean so(Step step) {
            if (step.test.equals("raining")) {
                return p.rain;
            }
            if (step.test.equals("tired")) {
                return p.tired(step.who);
            }
            int held = p.count(step.who);
            return step.sign == '<' ? held < step.number : step.sign == '>' ? held > step.number : held == step.number;
        }
    }
}
