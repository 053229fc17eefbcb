/** Edges of promises 11 and 12: the text of EVENINGS and its FAULTS, what fault() tells. */
public final class StepsEdgeTest {
    public static void main(String[] args) throws Exception {
        Edge.begin(args);
        sizes();
        cuts();
        emptiesTheTape();
        takesThePlace();
        numbers();
        names();
        steps();
        tests();
        blocks();
        manySteps();
        within();
        tokens();
        leastKind();
        faults();
        Edge.end(11, 12);
    }

    /** What its steps are, on a park with bands north, south, tuba and tunes march, waltz, polka. */
    private static void taken(String text, int steps) {
        BandPark x = Check.made(Edge.PARK);
        Check.told(text, x, Check.evenings(x, text), steps, 0);
        Check.same(text + ": no fault", x.fault(0), 0);
        Check.same(text + ": no place", x.fault(1), -1);
    }

    private static void sizes() {
        Edge.promise(11, "how many STEPS (5: above 300, too; 10).");
        for (int no : Edge.NO_NUMBERS) {
            Edge.no("so many bytes", 5, x -> x.evenings(no));
        }
        Edge.no("one more than there are", 5, x -> x.evenings(41));
        BandPark x = Edge.bare();
        Check.no("one of an empty tape", x, x.evenings(1), 5);
        for (int i = 0; i < 45; i++) {
            x.feed(0x20202020, 0x20202020, 0x20202020, 0x20202020, 0x20202020);
        }
        Check.no("301", x, x.evenings(301), 5);
        Check.no("900", x, x.evenings(900), 5);
        Check.no("901", x, x.evenings(901), 5);
        Check.same("the tape is full still", x.feed(0, 0, 0, 0, 0), -1);
        Check.told("the old ones are there still", x, x.live(5), Edge.bare().live(5), 0);
        Check.told("300", x, x.evenings(300), 0, 0);
        Check.same("the tape is empty then", x.feed(0, 0, 0, 0, 0), 20);
        Edge.promise(11, "EVENINGS are a TEXT of at most 300 bytes");
        StringBuilder text = new StringBuilder("wind 2;");
        while (text.length() < 295) {
            text.append(text.length() % 2 == 0 ? ' ' : '\n');
        }
        text.append("rain;");
        taken(text.toString(), 2);
        Edge.promise(11, "EVENINGS: {STEP}.");
        taken("", 0);
        taken(" \n", 0);
    }

    private static void cuts() {
        Edge.promise(11, "Likewise the EVENINGS");
        BandPark x = Check.made(Edge.PARK);
        Check.feed(x, "calm;rain;dry;!!");
        Check.told("the first 14", x, x.evenings(14), 3, 0);
        Check.feed(x, "calm;rain;dry;!!");
        Check.told("the first 5", x, x.evenings(5), 1, 0);
        Check.feed(x, "calm;rain;dry;!!");
        Check.no("the first 9", x, x.evenings(9), 10);
        Check.same("their end", x.fault(0) * 100 + x.fault(1), 209);
        Check.feed(x, "hour 200;");
        Check.told("a number cut", x, x.evenings(7), -1, 10);
        Check.same("its end", x.fault(0) * 100 + x.fault(1), 207);
    }

    private static void emptiesTheTape() {
        Edge.promise(11, "Likewise the EVENINGS");
        BandPark x = Edge.busy();
        Check.no("5", x, x.evenings(41), 5);
        Check.same("5 leaves the tape", x.feed(0, 0, 0, 0, 0), 60);
        Check.told("none of them", x, x.evenings(0), 0, 0);
        Check.same("empty with 0", x.feed(0x63616c6d, 0x3b212121, 0, 0, 0), 20);
        Check.told("the first of the new ones", x, x.evenings(5), 1, 0);
        Check.same("empty with 0", x.feed(0, 0, 0, 0, 0), 20);
        Check.no("10", x, x.evenings(1), 10);
        Check.same("empty with 10", x.feed(0, 0, 0, 0, 0), 20);
    }

    private static void takesThePlace() {
        Edge.promise(11, "Likewise the EVENINGS");
        BandPark x = Edge.bare();
        Check.told("others", x, Check.evenings(x, "hour 3;"), 1, 0);
        Check.told("the hour stays", x, x.many(7), 6, 0);
        Check.told("they are lived in place of the old", x, x.live(0), 1, 0);
        Check.told("hour", x, x.many(7), 9, 0);
        Check.no("a fault", x, Check.evenings(x, "hour 4;hour"), 10);
        Check.told("the old ones stay", x, x.live(0), 1, 0);
        Check.told("hour", x, x.many(7), 12, 0);
        x = Check.made(Edge.PARK);
        Check.no("a fault within three blocks", x, Check.evenings(x, "loop 1;loop 1;loop 1;loop"), 10);
        Check.told("a text behind it begins anew", x, Check.evenings(x, "loop 1;loop 1;loop 1;end;end;end;"), 3, 0);
        Check.no("blocks left open", x, Check.evenings(x, "loop 1;loop 1;"), 10);
        Check.no("an end without a beginning in this text", x, Check.evenings(x, "end;end;"), 10);
        Check.same("at its beginning", x.fault(0) * 10 + x.fault(1), 20);
        Check.no("thirty steps, and one more", x, Check.evenings(x, calms(31)), 10);
        Check.told("a text behind it begins anew", x, Check.evenings(x, calms(30)), 30, 0);
        x = new BandPark();
        Check.told("of a park of no cells", x, Check.evenings(x, "hour 2;any;stop;"), 3, 0);
        Check.told("lived there", x, x.live(0), 3, 0);
        Check.no("no bands there", x, Check.evenings(x, "when tired north;end;"), 10);
        Check.same("no bands there", x.fault(0) * 100 + x.fault(1), 311);
    }

    private static void range(String ahead, int least, int most, String behind, int steps) {
        for (int v = least; v <= most; v++) {
            taken(ahead + v + behind, steps);
        }
        Edge.eveningsFault(ahead + (most + 1) + behind, 4, ahead.length());
        Edge.eveningsFault(ahead + 9999 + behind, 4, ahead.length());
        if (least > 0) {
            Edge.eveningsFault(ahead + (least - 1) + behind, 4, ahead.length());
        }
        Edge.eveningsFault(ahead + "00001" + behind, 1, ahead.length());
        taken(ahead + "0001" + behind, steps);
        Edge.eveningsFault(ahead + "a" + behind, 2, ahead.length());
        Edge.eveningsFault(ahead, 2, ahead.length());
    }

    private static void numbers() {
        Edge.promise(11, "4 a NUMBER that can't be. 6 a 31st STEP");
        Edge.promise(11, "hour: so many (1 to 20)");
        range("hour ", 1, 20, ";", 1);
        Edge.promise(11, "wind: 0 east, 1 south, 2 west, 3 north");
        range("wind ", 0, 3, ";", 1);
        Edge.promise(11, "set: the ENTRY in a place (0 to 5) of a PROGRAMME is that");
        range("set north ", 0, 5, " hush;", 1);
        Edge.promise(11, "when holds: so many CELLS NOW (0 to 30)");
        range("when holds north < ", 0, 30, ";end;", 1);
        range("when holds north > ", 0, 30, ";calm;end;", 2);
        range("when holds north = ", 0, 30, ";end;", 1);
        Edge.promise(11, "loop n (1 to 99): as often.");
        range("loop ", 1, 99, ";end;", 1);
    }

    private static void names() {
        Edge.promise(11, "3 a NAME that is no such one (BANDS; a TUNE as an ENTRY).");
        for (String name : new String[] {"march", "polka", "nobody", "nort", "northh", "a"}) {
            Edge.eveningsFault("set " + name + " 0 hush;", 3, 4);
            Edge.eveningsFault("when holds " + name + " < 1;end;", 3, 11);
            Edge.eveningsFault("when tired " + name + ";end;", 3, 11);
        }
        for (String name : new String[] {"north", "tuba", "nobody", "marc", "marchh"}) {
            Edge.eveningsFault("set north 0 " + name + ";", 3, 12);
        }
        for (String name : new String[] {"north", "south", "tuba"}) {
            taken("set " + name + " 5 polka;when holds " + name + " = 0;end;when tired " + name + ";end;", 3);
        }
        for (String name : new String[] {"march", "waltz", "polka", "hush"}) {
            taken("set tuba 0 " + name + ";", 1);
        }
        Edge.promise(11, "1, 2 as above");
        for (String word : TextsEdgeTest.KEYWORDS) {
            Edge.eveningsFault("set " + word + " 0 hush;", 2, 4);
            Edge.eveningsFault("when holds " + word + " < 1;end;", 2, 11);
            Edge.eveningsFault("when tired " + word + ";end;", 2, 11);
            if (!word.equals("hush")) {
                Edge.eveningsFault("set north 0 " + word + ";", 2, 12);
            }
        }
        Edge.eveningsFault("set abcdefghi 0 hush;", 2, 4);
        Edge.eveningsFault("set northnorth 0 hush;", 2, 4);
        Edge.eveningsFault("set north 0 abcdefghi;", 2, 12);
        Edge.eveningsFault("set north 0 3;", 2, 12);
        Edge.eveningsFault("when tired abcdefghi;end;", 2, 11);
        Edge.eveningsFault("when holds abcdefghi < 1;end;", 2, 11);
        Edge.eveningsFault("when tired 0;end;", 2, 11);
    }

    /** Steps cut behind each of their tokens. */
    private static void steps() {
        Edge.promise(11, "1, 2 as above (an end without a beginning; the text's end ahead of an end: 2).");
        for (String step : new String[] {"hour 1", "wind 1", "calm", "rain", "dry", "set north 0 hush", "any", "stop"}) {
            endsEarly(step, ";", 1);
        }
        for (String step : new String[] {"when holds north < 3", "when tired north", "when raining", "loop 3"}) {
            endsEarly(step, ";end;", 1);
        }
        taken("hour 1;wind 1;calm;rain;dry;set north 0 hush;any;stop;", 8);
        for (String word : TextsEdgeTest.KEYWORDS) {
            boolean alone = "calm rain dry any stop".contains(word);
            boolean begins = alone || "hour wind set when loop".contains(word);
            if (alone) {
                taken(word + ";", 1);
                Edge.eveningsFault(word + " 1;", 2, word.length() + 1);
            } else {
                Edge.eveningsFault("calm;" + word + ";", 2, begins ? word.length() + 5 : 5);
            }
        }
        Edge.eveningsFault(";", 2, 0);
        Edge.eveningsFault("calm;;", 2, 5);
        Edge.eveningsFault("3;", 2, 0);
        Edge.eveningsFault("north;", 2, 0);
        Edge.eveningsFault("calms;", 2, 0);
        Edge.eveningsFault("abcdefghi;", 2, 0);
    }

    private static void endsEarly(String step, String behind, int steps) {
        String[] tokens = step.split(" ");
        StringBuilder text = new StringBuilder();
        for (int i = 0; i < tokens.length; i++) {
            text.append(i > 0 ? " " : "").append(tokens[i]);
            Edge.eveningsFault(text.toString(), 2, text.length());
            Edge.eveningsFault(text + "  ", 2, text.length() + 2);
            if (i == tokens.length - 1) {
                taken(text + behind, steps);
            } else {
                Edge.eveningsFault(text + behind, 2, text.length());
            }
        }
        Edge.eveningsFault(step + " >;", 2, step.length() + 1);
        Edge.eveningsFault(step + " 1;", 2, step.length() + 1);
        Edge.eveningsFault(step + " end;", 2, step.length() + 1);
    }

    private static void tests() {
        Edge.promise(11, "TEST: holds NAME COMPARES NUMBER, or tired NAME, or raining. COMPARES: < or > or =");
        for (String word : TextsEdgeTest.KEYWORDS) {
            if (!"holds tired raining".contains(word)) {
                Edge.eveningsFault("when " + word + " north < 1;end;", 2, 5);
            }
        }
        Edge.eveningsFault("when rain;end;", 2, 5);
        Edge.eveningsFault("when north < 1;end;", 2, 5);
        Edge.eveningsFault("when ;end;", 2, 5);
        Edge.eveningsFault("when 1;end;", 2, 5);
        Edge.eveningsFault("when holds north ; 1;end;", 2, 17);
        Edge.eveningsFault("when holds north 1;end;", 2, 17);
        Edge.eveningsFault("when holds north << 1;end;", 2, 18);
        Edge.eveningsFault("when holds north <= 1;end;", 2, 18);
        Edge.eveningsFault("when holds north ! 1;end;", 1, 17);
        Edge.eveningsFault("when holds north is 1;end;", 2, 17);
        Edge.eveningsFault("when holds < 1;end;", 2, 11);
        Edge.eveningsFault("when tired north < 1;end;", 2, 17);
        Edge.eveningsFault("when raining north;end;", 2, 13);
        taken("when holds north<1;end;when holds north>1;end;when holds north=1;end;", 3);
    }

    private static void blocks() {
        Edge.promise(11, "(an end without a beginning; the text's end ahead of an end: 2)");
        Edge.eveningsFault("end;", 2, 0);
        Edge.eveningsFault("calm;end;", 2, 5);
        Edge.eveningsFault("loop 1;end;end;", 2, 11);
        Edge.eveningsFault("loop 1;end;calm; end;", 2, 17);
        Edge.eveningsFault("when raining;end;end", 2, 17);
        Edge.eveningsFault("loop 1;", 2, 7);
        Edge.eveningsFault("loop 1;calm;  ", 2, 14);
        Edge.eveningsFault("when raining;", 2, 13);
        Edge.eveningsFault("loop 1;loop 1;end;", 2, 18);
        Edge.eveningsFault("loop 1;end", 2, 10);
        Edge.eveningsFault("loop 1;end end;", 2, 11);
        Edge.eveningsFault("loop 1;end 1;", 2, 11);
        taken("loop 1;end;", 1);
        taken("loop 1;calm;end;calm;when raining;calm;end;calm;", 6);
        taken("stop;calm;", 2);
    }

    private static String calms(int many) {
        StringBuilder s = new StringBuilder();
        for (int i = 0; i < many; i++) {
            s.append("calm;");
        }
        return s.toString();
    }

    private static void manySteps() {
        Edge.promise(11, "6 a 31st STEP (at its WORD; end is none).");
        taken(calms(29), 29);
        taken(calms(30), 30);
        taken(calms(30) + " \n", 30);
        Edge.eveningsFault(calms(30) + "calm;", 6, 150);
        Edge.eveningsFault(calms(30) + " hour 99", 6, 151);
        Edge.eveningsFault(calms(30) + "stop", 6, 150);
        Edge.eveningsFault(calms(31) + "!", 6, 150);
        for (String word : new String[] {"hour", "wind", "calm", "rain", "dry", "set", "any", "when", "loop", "stop"}) {
            Edge.eveningsFault(calms(30) + word, 6, 150);
        }
        taken("loop 1;loop 1;loop 1;" + calms(27) + "end;end;end;", 30);
        taken("loop 1;end;when raining;end;" + calms(28), 30);
        taken(calms(27) + "loop 1;end;loop 1;end;loop 1;end;", 30);
        Edge.eveningsFault("loop 1;" + calms(29) + "end;calm;", 6, 7 + 145 + 4);
        Edge.eveningsFault("loop 1;" + calms(29) + "calm;end;", 6, 7 + 145);
    }

    private static void within() {
        Edge.promise(11, "7 a when, loop within three others (at its WORD).");
        String three = "loop 1;when raining;loop 1;";
        taken(three + "end;end;end;", 3);
        taken(three + "calm;end;when raining;end;end;loop 1;end;end;", 6);
        Edge.eveningsFault(three + "loop 1;end;end;end;end;", 7, 27);
        Edge.eveningsFault(three + "when raining;end;end;end;end;", 7, 27);
        Edge.eveningsFault(three + "loop", 7, 27);
        Edge.eveningsFault(three + "when", 7, 27);
        Edge.eveningsFault(three + "calm; when nothing", 7, 33);
        Edge.eveningsFault(three + "end;loop 1;loop 1;", 7, 38);
        Edge.eveningsFault("when raining;when raining;when raining;when raining;", 7, 39);
        taken(three + "hour 1;wind 1;calm;rain;dry;any;stop;set north 0 hush;end;end;end;", 11);
    }

    private static void tokens() {
        Edge.promise(11, "of such TOKENS (none at first).");
        taken("hour1;wind2;loop3;set north0hush;end;", 4);
        taken("\nhour\n1\n;\n", 1);
        Edge.eveningsFault("hour 00001;", 1, 5);
        Edge.eveningsFault("calm!", 1, 4);
        Edge.eveningsFault("calm\t;", 1, 4);
        Edge.eveningsFault("Calm;", 1, 0);
        Edge.eveningsFault("calm;" + (char) 200, 1, 5);
        Edge.eveningsFault("calm;" + (char) 0, 1, 5);
        Edge.eveningsFault("hourr 1;", 2, 0);
        BandPark x = Check.made(Edge.PARK);
        Check.no("none at first", x, x.live(0), 8);
    }

    private static void leastKind() {
        Edge.promise(11, "FAULTS, the first along the text (of one TOKEN the least kind)");
        Edge.eveningsFault("loop 1;loop 1;loop 1;" + calms(27) + "loop 1;", 6, 21 + 135);
        Edge.eveningsFault("loop 1;loop 1;loop 1;" + calms(27) + "when raining;", 6, 21 + 135);
        Edge.eveningsFault(calms(30) + "park 1 by 1;", 2, 150);
        Edge.eveningsFault(calms(30) + "end;", 2, 150);
        Edge.eveningsFault(calms(30) + "north;", 2, 150);
        Edge.eveningsFault(calms(30) + ";", 2, 150);
        Edge.eveningsFault(calms(30) + "#", 1, 150);
        Edge.eveningsFault(calms(30) + "12345", 1, 150);
        Edge.eveningsFault("set nobody 9 nothing;", 3, 4);
        Edge.eveningsFault("set north 9 nothing;", 4, 10);
        Edge.eveningsFault("hour 99", 4, 5);
        Edge.eveningsFault("loop 0;loop 1;loop 1;loop 1;", 4, 5);
    }

    // ---- fault

    private static void faults() {
        Edge.promise(12, "NONE for others, and ahead of any.");
        BandPark x = new BandPark();
        Check.same("ahead of any", x.fault(0), -1);
        Check.same("ahead of any", x.fault(1), -1);
        Check.no("5 is none of these", x, x.park(1), 5);
        Check.same("ahead of any still", x.fault(0), -1);
        Check.same("ahead of any still", x.fault(1), -1);
        Check.told("taken", x, x.park(0), 0, 0);
        Edge.promise(12, "what 0: the FAULT (0 without one), 1: its place (NONE without).");
        Check.same("none", x.fault(0), 0);
        Check.same("no place", x.fault(1), -1);
        Check.park(x, "; ");
        Check.same("kind", x.fault(0), 2);
        Check.same("place 0", x.fault(1), 0);
        for (int no : new int[] {Edge.MIN, -1, 2, 3, Edge.MAX}) {
            Check.same("others", x.fault(no), -1);
        }
        Edge.promise(12, "Of the latest of these with STATUS 0 or 10");
        Check.no("5", x, x.park(1), 5);
        Check.no("5", x, x.evenings(301), 5);
        Check.same("the kind stays", x.fault(0), 2);
        Check.same("the place stays", x.fault(1), 0);
        Check.evenings(x, "calm; hour 0;");
        Check.same("of evenings", x.fault(0) * 100 + x.fault(1), 411);
        Check.evenings(x, "calm;");
        Check.same("taken", x.fault(0), 0);
        Check.same("taken", x.fault(1), -1);
        Check.park(x, "fade 1;fade 1;");
        Check.same("of a park", x.fault(0) * 100 + x.fault(1), 507);
        x.mark();
        Check.park(x, "fade 1;!");
        x.back();
        Check.same("it is not taken back", x.fault(0) * 100 + x.fault(1), 107);
        Check.park(x, "fade 1;");
        Check.same("taken", x.fault(0), 0);
        Check.same("taken", x.fault(1), -1);
        StringBuilder blanks = new StringBuilder();
        while (blanks.length() < 899) {
            blanks.append(' ');
        }
        Check.park(x, blanks + "<");
        Check.same("the last place", x.fault(0) * 1000 + x.fault(1), 2899);
    }
}
