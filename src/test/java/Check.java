/** What the tests share: a tally of wrong answers, and texts that are fed twenty bytes a call. */
final class Check {
    private static int wrong = 0;
    private static int asked = 0;
    private static String about = "";

    private Check() {
    }

    /** What stands ahead of each wrong answer from now on. */
    static void about(String words) {
        about = words + ": ";
    }

    static void same(String what, long got, long want) {
        asked++;
        if (got != want) {
            wrong++;
            if (wrong <= 40) {
                System.out.println(about + what + " answered " + got + ", due is " + want);
            }
        }
    }

    static void yes(String what, boolean is) {
        same(what, is ? 1 : 0, 1);
    }

    /** An answer and the status that comes with it. */
    static void told(String what, BandPark x, long got, long want, int status) {
        same(what, got, want);
        same(what + ": status", x.status(), status);
    }

    static void flag(String what, BandPark x, boolean got, int status) {
        told(what, x, got ? 1 : 0, status == 0 ? 1 : 0, status);
    }

    static void no(String what, BandPark x, long got, int status) {
        told(what, x, got, BandPark.NONE, status);
    }

    static void feed(BandPark x, String text) {
        for (int from = 0; from < text.length(); from += 20) {
            int[] five = new int[5];
            for (int i = 0; i < 20; i++) {
                int c = from + i < text.length() ? text.charAt(from + i) : ' ';
                five[i / 4] = five[i / 4] << 8 | c & 255;
            }
            x.feed(five[0], five[1], five[2], five[3], five[4]);
        }
    }

    static int park(BandPark x, String text) {
        feed(x, text);
        return x.park(text.length());
    }

    static int evenings(BandPark x, String text) {
        feed(x, text);
        return x.evenings(text.length());
    }

    static BandPark made(String text) {
        BandPark x = new BandPark();
        int bands = park(x, text);
        yes("taken: " + text, bands >= 0 && x.status() == 0);
        return x;
    }

    static void end() {
        System.out.println(asked + " answers asked, " + wrong + " wrong");
        if (wrong != 0) {
            System.exit(1);
        }
    }
}
