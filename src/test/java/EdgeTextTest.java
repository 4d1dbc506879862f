/** The edges of part 1 and of promises 1 to 5: the text, sentence by sentence. */
final class EdgeTextTest {
    private static final int BAD = SnuffCourt.BAD;
    private static final int NONE = SnuffCourt.NONE;
    private static final int FULL = SnuffCourt.FULL;
    private static final String CASE = "case wax1wax1;";

    private EdgeTextTest() {
    }

    static void run(Due due, Edges edges) {
        howMany(due, edges);
        ofEach(due, edges);
        burnsAndGoes(due, edges);
        tapeAndTokens(due, edges);
        lines(due, edges);
        faults(due, edges);
        tooMany(due, edges);
        missing(due, edges);
        taken(due, edges);
        promises(due, edges);
    }

    private static void text(Due due, String text, int answer, int fault) {
        SnuffCourt x = new SnuffCourt();
        due.is("\"" + text + "\"", Due.tell(x, text), answer);
        due.is("\"" + text + "\", its FAULT", x.fault(), fault);
    }

    private static void howMany(Due due, Edges edges) {
        edges.of(Edges.CASES, "CASES (4 at most)");
        text(due, CASE.repeat(4), 4, 0);
        text(due, CASE.repeat(5), -10 - 56, 5);
        due.is("the fourth is told", Due.told(CASE.repeat(4)).flame(3, 1, 1), 1);

        edges.of(Edges.CASES, "JUDGES (3 at most)");
        text(due, "long1;".repeat(3), 3, 0);
        text(due, "long1;".repeat(4), -10 - 18, 5);
        due.is("the third is told", Due.told("long1;long1;bare9;").judge(2, 1), 9);

        edges.of(Edges.CASES, "DRAUGHTS (4 at most): each in a MINUTE (0 to 20) of a STRENGTH (1 to 9)");
        text(due, "draught 0 1;".repeat(4), 4, 0);
        text(due, "draught 0 1;".repeat(5), -10 - 48, 5);
        text(due, "draught 0 1;draught 20 9;", 2, 0);
        text(due, "draught 21 1;", -10 - 8, 3);
        text(due, "draught 0 0;", -10 - 10, 3);
        text(due, "draught 0 10;", -10 - 10, 3);
        due.is("the fourth is told", Due.told("draught 0 1;".repeat(3) + "draught 20 9;").draught(3, 0), 20);

        edges.of(Edges.CASES, "one behind another (6 at most)");
        text(due, CASE + "long1;docket" + " 0 0".repeat(6) + ";", 3, 0);
        text(due, CASE + "long1;docket" + " 0 0".repeat(7) + ";", -10 - 51, 5);
        SnuffCourt x = Due.told(CASE + CASE + "long1;bare1;docket 0 1 1 0 0 0 1 1 0 1 1 0;");
        for (int i = 0; i < 6; i++) {
            due.is("CASE of " + i, x.docket(i, 0), i % 2);
            due.is("JUDGE of " + i, x.docket(i, 1), new int[] {1, 0, 0, 1, 1, 0}[i]);
        }
    }

    private static void ofEach(Due due, Edges edges) {
        edges.of(Edges.CASES, "of a LENGTH (0 to 99), with GUARD (0 to 9)");
        text(due, "case wax 0 0 wax 99 9;", 1, 0);
        text(due, "case wax 1 10 wax 1;", -10 - 11, 3);
        text(due, "case wax 1 wax 1 10;", -10 - 17, 3);
        text(due, "case wax 100 wax 1;", -10 - 9, 1);
        SnuffCourt x = Due.told("case wax 0 0 wax 99 9;");
        due.is("LENGTH 0", x.flame(0, 0, 1), 0);
        due.is("LENGTH 99", x.flame(0, 1, 1), 99);
        due.is("GUARD 0", x.flame(0, 0, 2), 0);
        due.is("GUARD 9", x.flame(0, 1, 2), 9);

        edges.of(Edges.CASES, "VERDICT: 0 none (at first), 1 SIDE 0 won, 2 SIDE 1 won, 3 hung");
        SnuffCourt y = Due.told("case wax9wax0;case wax0wax9;case wax0wax0;long1;");
        int[] verdicts = {1, 2, 3};
        for (int c = 0; c < 3; c++) {
            due.is("at first " + c, y.suit(c, 0), 0);
            due.is("heard " + c, y.hear(c, 0), verdicts[c]);
            due.is("then " + c, y.suit(c, 0), verdicts[c]);
        }

        edges.of(Edges.CASES, "A CASE is APPEALED or not (not at first)");
        due.is("not at first", y.suit(0, 1), 0);
        due.is("not by a HEARING", y.count(5), 0);
        y.appeal(0);
        due.is("APPEALED", y.suit(0, 1), 1);

        edges.of(Edges.CASES, "each of a HABIT (0 first, 1 long, 2 short, 3 bare)");
        edges.of(Edges.CASES, "H: first | long | short | bare");
        String[] habits = {"first", "long", "short", "bare"};
        for (int habit = 0; habit < 4; habit++) {
            due.is(habits[habit], Due.told(habits[habit] + " 1;").judge(0, 0), habit);
        }

        edges.of(Edges.CASES, "SLOW (1 to 9 MINUTES)");
        text(due, "first 1;long 9;", 2, 0);
        text(due, "first 0;", -10 - 6, 3);
        text(due, "first 10;", -10 - 6, 3);
        SnuffCourt z = Due.told("case bees 99 bees 99;first 1;long 9;");
        due.is("SLOW 1", z.foretell(0, 0, 1), 1);
        due.is("SLOW 9", z.foretell(0, 1, 1), 9);
    }

    private static void burnsAndGoes(Due due, Edges edges) {
        edges.of(Edges.CASES, "tallow 3; wax 1 less than tallow; bees half of wax; thief twice tallow");
        SnuffCourt x = Due.told("case tallow 9 wax 9;case bees 9 thief 9;");
        int[] burns = {3, 2, 1, 6};
        for (int kind = 0; kind < 4; kind++) {
            due.is("KIND " + kind, x.flame(kind / 2, kind % 2, 3), burns[kind]);
        }

        edges.of(Edges.CASES, "GOES by HABIT, to the FLAME of which SIDE, if both burn: first SIDE 0; ");
        for (int habit = 0; habit < 4; habit++) {
            SnuffCourt y = Due.told("case bees 9 bees 1;case bees 1 bees 9;first 1;");
            y.train(0, 0, habit);
            due.is("SIDE 1 is out, HABIT " + habit, y.hear(0, 0), 1);
            due.is("SIDE 0 is out, HABIT " + habit, y.hear(1, 0), 2);
        }

        edges.of(Edges.CASES, "long the longer one (alike: SIDE 0); short the other one than a long one would; "
                + "bare the one of less GUARD (alike: as first)");
        int[] alike = {2, 2, 1, 2};
        int[] lower = {2, 1, 2, 1};
        int[] higher = {2, 2, 1, 2};
        for (int habit = 0; habit < 4; habit++) {
            SnuffCourt y = Due.told("case bees 9 5 bees 9 5;case bees 9 5 bees 10 4;case bees 10 4 bees 9 5;first 1;");
            y.train(0, 0, habit);
            due.is("alike, HABIT " + habit, y.hear(0, 0), alike[habit]);
            due.is("SIDE 1 one longer, of one less, HABIT " + habit, y.hear(1, 0), lower[habit]);
            due.is("SIDE 0 one longer, of one less, HABIT " + habit, y.hear(2, 0), higher[habit]);
        }
    }

    private static void tapeAndTokens(Due due, Edges edges) {
        edges.of(Edges.CASES, "THE TAPE has 160 bytes, places from 0");
        text(due, " ".repeat(154) + "long1;", 1, 0);
        text(due, " ".repeat(159) + "#", -10 - 159, 1);
        text(due, "#", -10, 1);
        text(due, " ".repeat(160), 0, 0);
        SnuffCourt x = new SnuffCourt();
        for (int i = 0; i < 160; i++) {
            x.feed(' ');
        }
        due.is("one more", x.feed(' '), FULL);

        edges.of(Edges.CASES, "TOKENS, each as long as may be");
        text(due, "casewax 1 wax 1;", -10, 2);
        text(due, "longs 1;", -10, 2);
        text(due, "lon g1;", -10, 2);
        text(due, "long 12;", -10 - 5, 3);
        text(due, "draught11;", -10 - 9, 2);
        text(due, "draught 0 011;", -10 - 10, 1);

        edges.of(Edges.CASES, "any number of blanks (32) ahead of, between, behind them "
                + "(one at least between two NAMES, between two NUMBERS; else none is needed)");
        text(due, "   case   wax   1   2   wax   3   ;   long   4   ;   ", 2, 0);
        text(due, "case wax1wax1;", 1, 0);
        text(due, "case wax1 2wax1 2;long1;draught1 1;docket0 0;", 4, 0);
        text(due, " ; ", -10 - 1, 2);
        text(due, "long\n1;", -10 - 4, 1);

        edges.of(Edges.CASES, "NAMES (a .. z), NUMBERS (1 or 2 figures), the sign ; (every other byte is no TOKEN)");
        for (int c = 0; c < 128; c++) {
            boolean stands = c >= 'a' && c <= 'z' || c >= '0' && c <= '9' || c == ';';
            text(due, " " + (char) c, c == ' ' ? 0 : -10 - 1, c == ' ' ? 0 : stands ? 2 : 1);
            text(due, "long1;" + (char) c, c == ' ' ? 1 : -10 - 6, c == ' ' ? 0 : stands ? 2 : 1);
        }
        text(due, "long 1;long 01;", 2, 0);
        text(due, "long 001;", -10 - 5, 1);
        for (String other : new String[] {"base wax 1 wax 1;", "cast wax 1 wax 1;", "cas wax 1 wax 1;", "tong 1;", "lonk 1;",
            "dock;", "socket;", "dockets;", "drought 1 1;", "hurst 1;", "ware 1;", "thort 1;", "wax 1;"}) {
            text(due, other, -10, 2);
        }
        for (String other : new String[] {"case fax 1 wax 1;", "case wa 1 wax 1;", "case waxy 1 wax 1;", "case sallow 1 wax 1;",
            "case tallot 1 wax 1;", "case tees 1 wax 1;", "case bee 1 wax 1;", "case chief 1 wax 1;", "case thiefs 1 wax 1;"}) {
            text(due, other, -10 - 5, 2);
        }
    }

    private static void lines(Due due, Edges edges) {
        edges.of(Edges.CASES, "text: { line }");
        text(due, "", 0, 0);
        text(due, "docket;" + CASE + "long1;draught 0 1;" + CASE + "bare1;draught 0 1;", 7, 0);

        edges.of(Edges.CASES, "docket { N N } ;");
        text(due, "docket;", 1, 0);
        text(due, CASE + "long1;docket 0 0;", 3, 0);
        text(due, CASE + "long1;docket 0;", -10 - 28, 2);
        text(due, CASE + "long1;docket 0 0 0;", -10 - 32, 2);

        edges.of(Edges.CASES, "LENGTH, GUARD (0, if it is not told)");
        SnuffCourt x = Due.told("case wax 1 wax 2 7;case wax 3 8 wax 4;");
        int[] guards = {0, 7, 8, 0};
        for (int i = 0; i < 4; i++) {
            due.is("GUARD of " + i, x.flame(i / 2, i % 2, 2), guards[i]);
            due.is("LENGTH of " + i, x.flame(i / 2, i % 2, 1), i + 1);
        }
        Due.tell(x, "case wax 1 9 wax 2;");
        due.is("0 again", x.flame(0, 1, 2), 0);

        edges.of(Edges.CASES, "THE DOCKET: CASES (0 to 3), JUDGES (0 to 2), by twos");
        text(due, "docket 3 2;" + CASE.repeat(4) + "long1;".repeat(3), 8, 0);
        text(due, "docket 4 2;" + CASE.repeat(4) + "long1;".repeat(3), -10 - 7, 3);
        text(due, "docket 3 3;" + CASE.repeat(4) + "long1;".repeat(3), -10 - 9, 3);
    }

    private static void faults(Due due, Edges edges) {
        edges.of(Edges.CASES, "FAULTS, the first met as it is read (a TOKEN is read when the one before has been taken)");
        text(due, "long 10#", -10 - 5, 3);
        text(due, "long 0;#", -10 - 5, 3);
        text(due, "lung#", -10, 2);
        text(due, "long 1#", -10 - 6, 1);
        text(due, "long 1;#lung", -10 - 7, 1);
        text(due, "case wax 1 10#", -10 - 11, 3);
        text(due, "case wax 1#", -10 - 10, 1);
        text(due, "case wax 1 1#", -10 - 12, 1);
        text(due, "draught 21 100", -10 - 8, 3);
        text(due, "docket 4 100", -10 - 7, 3);
        text(due, "docket 0 0;#", -10 - 11, 1);

        edges.of(Edges.CASES, "1 no TOKEN, a NUMBER that is too long (its first byte)");
        text(due, "long .1;", -10 - 5, 1);
        text(due, "docket#", -10 - 6, 1);
        text(due, "case#", -10 - 4, 1);
        text(due, "draught#", -10 - 7, 1);
        text(due, "long 100;", -10 - 5, 1);
        text(due, "long 000000;", -10 - 5, 1);
        text(due, "100", -10, 1);
        text(due, CASE + "long1;docket" + " 0 0".repeat(6) + " 100", -10 - 51, 1);
        text(due, " ".repeat(157) + "100", -10 - 157, 1);

        edges.of(Edges.CASES, "2 a TOKEN that can not stand there (a NAME that begins no line, no FLAME; "
                + "or the end: the length)");
        text(due, "thief 1;", -10, 2);
        text(due, "7", -10, 2);
        text(due, ";", -10, 2);
        text(due, "case long 1 wax 1;", -10 - 5, 2);
        text(due, "case wax 1 bare 1;", -10 - 11, 2);
        text(due, "case wax 1 1 1 wax 1;", -10 - 13, 2);
        text(due, "case 1 wax 1;", -10 - 5, 2);
        text(due, "long;", -10 - 4, 2);
        text(due, "long long;", -10 - 5, 2);
        text(due, "long 1 1;", -10 - 7, 2);
        text(due, "draught 1 1 draught", -10 - 12, 2);
        String[] cut = {"case", "case wax", "case wax1", "case wax1 1", "case wax1wax", "case wax1wax1", "case wax1wax1 1",
            "long", "long1", "draught", "draught1", "draught1 1", "docket", "docket0", "docket0 0"};
        for (String head : cut) {
            text(due, head, -10 - head.length(), 2);
            text(due, head + "  ", -10 - head.length() - 2, 2);
        }
        text(due, "case" + " ".repeat(156), -10 - 160, 2);

        edges.of(Edges.CASES, "3 a NUMBER out of its bounds");
        text(due, "long 0;", -10 - 5, 3);
        text(due, "long 99;", -10 - 5, 3);
        text(due, "draught 99 1;", -10 - 8, 3);
        text(due, "draught 1 00;", -10 - 10, 3);
        text(due, "case wax 99 99 wax 1;", -10 - 12, 3);
        text(due, "docket 99 0;", -10 - 7, 3);
        text(due, "docket 0 99;", -10 - 9, 3);

        edges.of(Edges.CASES, "4 docket for the second time (its NAME)");
        text(due, "docket;docket;", -10 - 7, 4);
        text(due, "docket; docket#", -10 - 8, 4);
        text(due, "docket;long1;docket", -10 - 13, 4);
        text(due, "docket 3 2;docket;", -10 - 11, 4);
    }

    private static void tooMany(Due due, Edges edges) {
        edges.of(Edges.CASES, "5 the 5th case, the 4th JUDGE, the 5th draught (its NAME)");
        text(due, CASE.repeat(4) + " case#", -10 - 57, 5);
        text(due, CASE.repeat(4) + "case wax 1 wax 1;", -10 - 56, 5);
        for (String habit : new String[] {"first", "long", "short", "bare"}) {
            text(due, "long1;".repeat(3) + habit + "#", -10 - 18, 5);
        }
        text(due, "draught 0 1;".repeat(4) + "draught#", -10 - 48, 5);
        text(due, CASE.repeat(4) + "long1;draught 0 1;", 6, 0);

        edges.of(Edges.CASES, "a 7th HEARING (its first NUMBER, whether it is one or not)");
        String six = "docket" + " 0 0".repeat(6);
        text(due, six + " 0 0;", -10 - 31, 5);
        text(due, six + " 0", -10 - 31, 5);
        text(due, six + " 0;", -10 - 31, 5);
        text(due, six + " 4 0;", -10 - 31, 5);
        text(due, six + " 99 99;", -10 - 31, 5);
        text(due, six + " 0#", -10 - 31, 5);
        for (String name : new String[] {"wax", "docket", "long 1;", "lamp", "docket;", "case wax1wax1;"}) {
            text(due, six + name, -10 - 30, 5);
            text(due, six + "  " + name, -10 - 32, 5);
            text(due, "docket" + " 0 0".repeat(5) + name, -10 - 26, 2);
            text(due, "docket" + " 0 0".repeat(5) + " 0" + name, -10 - 28, 2);
        }
        text(due, six + "#", -10 - 30, 1);
        text(due, six, -10 - 30, 2);
        text(due, six + " ", -10 - 31, 2);
        text(due, six + ";", -10 - 31, 6);
        text(due, six + ";long", -10 - 35, 2);
        text(due, CASE + "long1;" + six + ";long1;", 4, 0);
    }

    private static void missing(Due due, Edges edges) {
        edges.of(Edges.CASES, "Behind all (the length): 6 a CASE, a JUDGE that there is not");
        text(due, "docket 0 0;", -10 - 11, 6);
        text(due, "docket 0 0;   ", -10 - 14, 6);
        text(due, CASE + "docket 0 0;", -10 - 25, 6);
        text(due, "long1;docket 0 0;", -10 - 17, 6);
        text(due, "long1;" + CASE + "docket 1 0;", -10 - 31, 6);
        text(due, "long1;" + CASE + "docket 0 1;", -10 - 31, 6);
        text(due, "docket 0 0;" + CASE + "long1;", 3, 0);
        text(due, "docket 0 0 0 0 0 0 0 0 0 0 1 0;" + CASE + "long1;", -10 - 51, 6);
        text(due, "docket 3 0;" + CASE.repeat(3) + "long1;", -10 - 59, 6);
        text(due, "docket 3 2;" + CASE.repeat(4) + "long1;".repeat(2), -10 - 79, 6);
        text(due, "docket 0 0;long 0;", -10 - 16, 3);
        text(due, "docket 0 0;", -10 - 11, 6);
        SnuffCourt x = Due.told(CASE + "long1;");
        due.is("not of what there was", Due.tell(x, "docket 0 0;"), -10 - 11);
    }

    private static void taken(Due due, Edges edges) {
        edges.of(Edges.CASES, "A text that is taken tells all, in place of what there was (what no line tells is as at first); "
                + "nothing is SEEN; IMAGES are gone; SHEETS stay");
        SnuffCourt x = Due.told("case wax 5 7 wax 5 9;case wax 0 3 wax 5;long2;bare3;draught 1 1;docket 0 0;");
        x.see(0, 0, 1);
        x.keep(0);
        x.keep(1);
        x.sheet(0, 1, 2);
        x.lay(0, 1, 1);
        x.hear(1, 0);
        x.appeal(1);
        x.hear(1, 1);
        due.is("two CASES", Due.tell(x, "case bees 9 bees 9;case bees 9 bees 9;long2;long2;"), 4);
        due.is("DRAUGHTS", x.rule(2), 0);
        due.is("HEARINGS", x.rule(3), 0);
        due.is("GUARDS", x.count(4), 0);
        due.is("VERDICTS", x.rule(4) + x.rule(5) + x.rule(6), 0);
        due.is("APPEALED", x.count(5), 0);
        due.is("MINUTE", x.suit(1, 2), NONE);
        due.is("JUDGE", x.suit(1, 3), NONE);
        due.is("SEEN", x.count(0), 0);
        due.is("IMAGES", x.count(1), 0);
        due.is("IMAGE 0", x.back(0), SnuffCourt.STATE);
        due.is("IMAGE 1", x.back(1), SnuffCourt.STATE);
        due.is("no IMAGE was", x.keep(0), 0);
        due.is("CELLS", x.count(3), 2);
        due.is("what they hold", x.read(0, 1, 0, 1), 1);
        due.is("CASE 0 by JUDGE 1", x.suit(0, 3), 1);
        due.is("LENGTHS of one CASE behind two", Due.tell(x, "case wax 3 1 wax 4 2;docket;") * 10 + x.rule(7), 27);
        due.is("GUARDS of one CASE behind two", x.count(4), 3);
        due.is("docket in a text again", Due.tell(x, "docket;"), 1);
        due.is("an empty one", x.text(), 0);
        for (int what = 0; what <= 7; what++) {
            due.is("an empty one tells nothing " + what, x.rule(what), 0);
        }
        due.is("CELLS still", x.count(3), 2);
    }

    private static void promises(Due due, Edges edges) {
        edges.of(1, "No CASES, no JUDGES, no DRAUGHTS; SHEETS have nothing.");
        SnuffCourt x = new SnuffCourt();
        for (int what = 0; what <= 7; what++) {
            due.is("rule " + what, x.rule(what), 0);
        }
        due.is("CASE 0", x.suit(0, 0), BAD);
        due.is("JUDGE 0", x.judge(0, 0), BAD);
        due.is("DRAUGHT 0", x.draught(0, 0), BAD);
        due.is("HEARING 0", x.docket(0, 0), BAD);
        due.is("SHEET 0", x.count(3), NONE);
        for (int k = 0; k < 4; k++) {
            due.is("SHEET " + k, x.lay(k, 0, 0), -11);
        }

        edges.of(2, "A byte (0 to 127) comes behind THE TAPE: how many it has. BAD; FULL: more than 160.");
        due.is("0", x.feed(0), 1);
        due.is("127", x.feed(127), 2);
        due.is("-1", x.feed(-1), BAD);
        due.is("128", x.feed(128), BAD);
        due.is("256", x.feed(256 + ' '), BAD);
        for (int i = 3; i <= 160; i++) {
            due.is("the " + i, x.feed(' '), i);
        }
        due.is("the 161st", x.feed(' '), FULL);
        due.is("the 161st, BAD", x.feed(128), BAD);
        due.is("none more", x.count(2), 160);

        edges.of(3, "THE TAPE keeps its first n bytes: how many it had. BAD (n above that, too).");
        due.is("161", x.end(161), BAD);
        due.is("-1", x.end(-1), BAD);
        due.is("160", x.end(160), 160);
        due.is("159", x.end(159), 160);
        due.is("160 then", x.end(160), BAD);
        due.is("0", x.end(0), 159);
        due.is("0 of 0", x.end(0), 0);
        due.is("1 of 0", x.end(1), BAD);
        due.is("one behind it", x.feed(';'), 1);

        edges.of(4, "THE TAPE (empty then, by a FAULT, too) tells all: how many lines; -10 less the place of its FAULT: "
                + "that which was told stays.");
        due.is("its FAULT", x.text(), -10);
        due.is("empty by a FAULT", x.count(2), 0);
        due.is("of an empty one", x.text(), 0);
        due.is("two lines", Due.tell(x, "long 3;bare 4;"), 2);
        due.is("empty then", x.count(2), 0);
        due.is("the last place of all", Due.tell(x, "long 9;" + " ".repeat(152) + "#"), -169);
        due.is("the length", Due.tell(x, "long 9;" + " ".repeat(149) + "bare"), -170);
        due.is("stays", x.judge(0, 1), 3);
        due.is("stays, JUDGES", x.rule(1), 2);

        edges.of(5, "The FAULT of the latest text(); 0.");
        due.is("of a new object", new SnuffCourt().fault(), 0);
        due.is("2", x.fault(), 2);
        x.feed('#');
        due.is("2 as yet", x.fault(), 2);
        x.text();
        due.is("1", x.fault(), 1);
        x.text();
        due.is("0 of one that is taken", x.fault(), 0);
    }
}
