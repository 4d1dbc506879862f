/** Promises 1 to 5: a new object, THE TAPE, its text and the FAULTS. */
final class TextTest {
    private static final String CASE = "case wax 1 wax 1;";

    private TextTest() {
    }

    static void run(Due due) {
        newObject(due);
        feed(due);
        end(due);
        textsThatAreTaken(due);
        tokens(due);
        caseFaults(due);
        judgeFaults(due);
        draughtFaults(due);
        docketFaults(due);
        tooMany(due);
        missing(due);
        whatATextLeaves(due);
        whatAFaultLeaves(due);
    }

    private static void newObject(Due due) {
        due.group("promise 1");
        SnuffCourt x = new SnuffCourt();
        for (int what = 0; what <= 7; what++) {
            due.is("rule " + what, x.rule(what), 0);
        }
        for (int k = 0; k < 4; k++) {
            due.is("lay " + k, x.lay(k, 0, 0), -11);
        }
        due.is("SEEN", x.count(0), 0);
        due.is("IMAGES", x.count(1), 0);
        due.is("bytes", x.count(2), 0);
        due.is("CELLS", x.count(3), SnuffCourt.NONE);
        due.is("fault", x.fault(), 0);
        due.is("torn", x.torn(), 0);
        due.is("flame", x.flame(0, 0, 0), SnuffCourt.BAD);
        due.is("judge", x.judge(0, 0), SnuffCourt.BAD);
        due.is("draught", x.draught(0, 0), SnuffCourt.BAD);
        due.is("docket", x.docket(0, 0), SnuffCourt.BAD);
        due.is("BAD", SnuffCourt.BAD, -1);
        due.is("STATE", SnuffCourt.STATE, -2);
        due.is("FULL", SnuffCourt.FULL, -3);
        due.is("NONE", SnuffCourt.NONE, -4);
    }

    private static void feed(Due due) {
        due.group("promise 2");
        SnuffCourt x = new SnuffCourt();
        due.is("0", x.feed(0), 1);
        due.is("127", x.feed(127), 2);
        due.is("128", x.feed(128), SnuffCourt.BAD);
        due.is("-1", x.feed(-1), SnuffCourt.BAD);
        for (int i = 3; i <= 160; i++) {
            due.is("blank " + i, x.feed(' '), i);
        }
        due.is("161st", x.feed(' '), SnuffCourt.FULL);
        due.is("161st, no byte", x.feed(200), SnuffCourt.BAD);
        due.is("how many", x.count(2), 160);
        due.is("the last away", x.end(159), 160);
        due.is("160th again", x.feed(' '), 160);
    }

    private static void end(Due due) {
        due.group("promise 3");
        SnuffCourt x = new SnuffCourt();
        due.is("of none", x.end(0), 0);
        due.is("one of none", x.end(1), SnuffCourt.BAD);
        for (char c : "long 7;xyz".toCharArray()) {
            x.feed(c);
        }
        due.is("above", x.end(11), SnuffCourt.BAD);
        due.is("below", x.end(-1), SnuffCourt.BAD);
        due.is("all", x.end(10), 10);
        due.is("first 7", x.end(7), 10);
        due.is("how many", x.count(2), 7);
        due.is("the first are kept", x.text(), 1);
        due.is("SLOW", x.judge(0, 1), 7);
    }

    private static void due(Due due, String text, int answer, int fault) {
        SnuffCourt x = new SnuffCourt();
        due.is("\"" + text + "\"", Due.tell(x, text), answer);
        due.is("\"" + text + "\" fault", x.fault(), fault);
        due.is("\"" + text + "\" tape", x.count(2), 0);
    }

    private static void textsThatAreTaken(Due due) {
        due.group("promise 4");
        due(due, "", 0, 0);
        due(due, "   ", 0, 0);
        due(due, "docket;", 1, 0);
        due(due, "first1;long2;short9;", 3, 0);
        due(due, "  first   01  ;  ", 1, 0);
        due(due, "case wax9 2bees6;first1;draught 0 1;docket 0 0;", 4, 0);
        due(due, "docket 0 0;bare 5;case tallow 0 0 thief 99 9;", 3, 0);

        SnuffCourt x = Due.told("case tallow 0 0 thief 99 9;case wax07 bees 8 09;bare 5;long 1;draught 20 9;draught 0 01;"
                + "docket 1 0 0 1;");
        due.is("KIND 0 0", x.flame(0, 0, 0), 0);
        due.is("LENGTH 0 0", x.flame(0, 0, 1), 0);
        due.is("GUARD 0 0", x.flame(0, 0, 2), 0);
        due.is("KIND 0 1", x.flame(0, 1, 0), 3);
        due.is("LENGTH 0 1", x.flame(0, 1, 1), 99);
        due.is("GUARD 0 1", x.flame(0, 1, 2), 9);
        due.is("KIND 1 0", x.flame(1, 0, 0), 1);
        due.is("LENGTH 1 0", x.flame(1, 0, 1), 7);
        due.is("GUARD 1 0", x.flame(1, 0, 2), 0);
        due.is("KIND 1 1", x.flame(1, 1, 0), 2);
        due.is("LENGTH 1 1", x.flame(1, 1, 1), 8);
        due.is("GUARD 1 1", x.flame(1, 1, 2), 9);
        due.is("HABIT 0", x.judge(0, 0), 3);
        due.is("SLOW 0", x.judge(0, 1), 5);
        due.is("HABIT 1", x.judge(1, 0), 1);
        due.is("SLOW 1", x.judge(1, 1), 1);
        due.is("MINUTE 0", x.draught(0, 0), 20);
        due.is("STRENGTH 0", x.draught(0, 1), 9);
        due.is("MINUTE 1", x.draught(1, 0), 0);
        due.is("STRENGTH 1", x.draught(1, 1), 1);
        due.is("docket 0 CASE", x.docket(0, 0), 1);
        due.is("docket 0 JUDGE", x.docket(0, 1), 0);
        due.is("docket 1 CASE", x.docket(1, 0), 0);
        due.is("docket 1 JUDGE", x.docket(1, 1), 1);

        SnuffCourt y = Due.told("first 1;short 2;");
        due.is("first", y.judge(0, 0), 0);
        due.is("short", y.judge(1, 0), 2);
    }

    private static void tokens(Due due) {
        due.group("promises 4 and 5, TOKENS");
        due(due, "First 1;", -10, 1);
        due(due, "fiRst 1;", -10, 2);
        due(due, "firsts 1;", -10, 2);
        due(due, "firs 1;", -10, 2);
        due(due, "a", -10, 2);
        due(due, "z", -10, 2);
        due(due, "firstz 1;", -10, 2);
        due(due, "first z", -16, 2);
        due(due, "  wax 1;", -12, 2);
        due(due, "casewax 1 wax 1;", -10, 2);
        due(due, ";", -10, 2);
        due(due, "1;", -10, 2);
        due(due, "100", -10, 1);
        due(due, "first#1;", -15, 1);
        due(due, "first 1;#", -18, 1);
        due(due, "first\t1;", -15, 1);
        due(due, "first 1:", -17, 1);
        due(due, "first 1/", -17, 1);
        due(due, "first `", -16, 1);
        due(due, "first {", -16, 1);
        due(due, "first 001;", -16, 1);
        due(due, "first 1234567890123456789012;", -16, 1);
        due(due, "first -1;", -16, 1);
        due(due, "first 1;;", -18, 2);
        due(due, "first 1;\u0000", -18, 1);
        String full = "first 1;" + " ".repeat(152);
        due(due, full, 1, 0);
        due(due, "first 1" + " ".repeat(153), -170, 2);
        due(due, " ".repeat(152) + "first 1;", 1, 0);
        due(due, " ".repeat(153) + "first 1", -170, 2);
        due(due, " ".repeat(155) + "first", -170, 2);
        due(due, " ".repeat(158) + "fi", -168, 2);
        due(due, " ".repeat(157) + "100", -167, 1);
    }

    private static void caseFaults(Due due) {
        due.group("promises 4 and 5, case");
        due(due, "case", -14, 2);
        due(due, "case ;", -15, 2);
        due(due, "case lamp 1 wax 1;", -15, 2);
        due(due, "case first 1 wax 1;", -15, 2);
        due(due, "case 1 wax 1;", -15, 2);
        due(due, "case wax;", -18, 2);
        due(due, "case wax wax 1;", -19, 2);
        due(due, "case wax 1", -20, 2);
        due(due, "case wax 1;", -20, 2);
        due(due, "case wax 100 wax 1;", -19, 1);
        due(due, "case wax 1 10 wax 1;", -21, 3);
        due(due, "case wax 1 10 #", -21, 3);
        due(due, "case wax 1 100 wax 1;", -21, 1);
        due(due, "case wax 1 9 wax", -26, 2);
        due(due, "case wax 1 1 1;", -23, 2);
        due(due, "case wax 1 wax 1", -26, 2);
        due(due, "case wax 1 wax 1 10;", -27, 3);
        due(due, "case wax 1 wax 1 1 1;", -29, 2);
        due(due, "case wax 1 wax 1 wax 1;", -27, 2);
        due(due, "case wax 1#", -20, 1);
    }

    private static void judgeFaults(Due due) {
        due.group("promises 4 and 5, judges");
        due(due, "first", -15, 2);
        due(due, "long;", -14, 2);
        due(due, "short 0;", -16, 3);
        due(due, "bare 10;", -15, 3);
        due(due, "bare 9;", 1, 0);
        due(due, "first 1", -17, 2);
        due(due, "first 1  ", -19, 2);
        due(due, "first 1 1;", -18, 2);
        due(due, "first wax;", -16, 2);
        due(due, "first 1 long 1;", -18, 2);
    }

    private static void draughtFaults(Due due) {
        due.group("promises 4 and 5, draughts");
        due(due, "draught;", -17, 2);
        due(due, "draught 20 9;", 1, 0);
        due(due, "draught 21 1;", -18, 3);
        due(due, "draught 21 #;", -18, 3);
        due(due, "draught 1;", -19, 2);
        due(due, "draught 1 0;", -20, 3);
        due(due, "draught 1 10;", -20, 3);
        due(due, "draught 1 1 1;", -22, 2);
        due(due, "draught 1 wax;", -20, 2);
    }

    private static void docketFaults(Due due) {
        due.group("promises 4 and 5, docket");
        due(due, "docket", -16, 2);
        due(due, "docket#", -16, 1);
        due(due, "docket 100;", -17, 1);
        due(due, "docket 0 0#", -20, 1);
        due(due, "docket wax;", -17, 2);
        due(due, "docket 0;", -18, 2);
        due(due, "docket 4 0;", -17, 3);
        due(due, "docket 4;", -17, 3);
        due(due, "docket 0 3;", -19, 3);
        due(due, "docket 0 0", -20, 2);
        due(due, "docket 0 wax;", -19, 2);
        due(due, "docket 0 100;", -19, 1);
        due(due, "docket;docket;", -17, 4);
        due(due, "docket;docket#", -17, 4);
        due(due, "docket; first 1; docket 0 0;", -27, 4);
    }

    private static void tooMany(Due due) {
        due.group("promises 4 and 5, too many");
        due(due, CASE.repeat(4), 4, 0);
        due(due, CASE.repeat(4) + "case", -78, 5);
        due(due, CASE.repeat(4) + " case lamp", -79, 5);
        due(due, CASE.repeat(4) + "cases", -78, 2);
        due(due, "long 1;".repeat(3), 3, 0);
        due(due, "long 1;".repeat(3) + "bare", -31, 5);
        due(due, "draught 0 1;".repeat(4), 4, 0);
        due(due, "draught 0 1;".repeat(4) + "draught", -58, 5);
        String six = "docket 0 0 0 0 0 0 0 0 0 0 0 0 ";
        due(due, six + "0 0;", -41, 5);
        due(due, six + "9;", -41, 5);
        due(due, six + "99", -41, 5);
        due(due, six + "100", -41, 1);
        due(due, six + "wax", -41, 5);
        due(due, six, -41, 2);
        due(due, CASE + "first 1;" + six + ";", 3, 0);
    }

    private static void missing(Due due) {
        due.group("promises 4 and 5, there is no such");
        due(due, "docket 0 0;", -21, 6);
        due(due, "docket 0 0;  ", -23, 6);
        due(due, "docket 0 0;#", -21, 1);
        due(due, "docket 0 0;docket", -21, 4);
        due(due, CASE + "docket 0 0;", -38, 6);
        due(due, "first 1;docket 0 0;", -29, 6);
        due(due, CASE + "first 1;docket 1 0;", -46, 6);
        due(due, CASE + "first 1;docket 0 1;", -46, 6);
        due(due, CASE + "first 1;docket 0 0 0 0 1 0;", -54, 6);
        due(due, "docket 3 2;" + CASE.repeat(4) + "long 1;".repeat(3), 8, 0);
    }

    private static void whatATextLeaves(Due due) {
        due.group("promise 4, in place of what there was");
        SnuffCourt x = Due.told("case wax 5 wax 5;case wax 5 wax 5;first 2;draught 1 1;docket 0 0 1 0;");
        x.hear(0, 0);
        x.appeal(0);
        x.hear(0, 0);
        x.see(0, 0, 1);
        x.keep(0);
        x.keep(1);
        x.sheet(0, 1, 7);
        due.is("again", Due.tell(x, "case bees 9 bees 9;"), 1);
        due.is("CASES", x.rule(0), 1);
        due.is("JUDGES", x.rule(1), 0);
        due.is("DRAUGHTS", x.rule(2), 0);
        due.is("HEARINGS", x.rule(3), 0);
        due.is("VERDICT", x.suit(0, 0), 0);
        due.is("APPEALED", x.suit(0, 1), 0);
        due.is("MINUTE", x.suit(0, 2), SnuffCourt.NONE);
        due.is("JUDGE", x.suit(0, 3), SnuffCourt.NONE);
        due.is("LENGTHS", x.rule(7), 18);
        due.is("SEEN", x.count(0), 0);
        due.is("IMAGES", x.count(1), 0);
        due.is("IMAGE 0", x.back(0), SnuffCourt.STATE);
        due.is("IMAGE 1", x.back(1), SnuffCourt.STATE);
        due.is("SHEET 0", x.count(3), 7);
        due.is("an empty one", x.text(), 0);
        due.is("no CASES", x.rule(0), 0);

        SnuffCourt y = Due.told("case wax 5 7 wax 5 9;case wax 0 3 wax 5 3;case wax 5 wax 0;first 2;long 2;");
        y.hear(1, 0);
        y.appeal(1);
        y.hear(1, 0);
        y.hear(2, 0);
        due.is("fewer CASES", Due.tell(y, "case bees 9 bees 9;long 2;"), 2);
        due.is("no GUARD is told", y.flame(0, 0, 2), 0);
        due.is("no GUARD is told of SIDE 1", y.flame(0, 1, 2), 0);
        due.is("GUARDS of one CASE", y.count(4), 0);
        due.is("none won by SIDE 0", y.rule(4), 0);
        due.is("none won by SIDE 1", y.rule(5), 0);
        due.is("none APPEALED", y.count(5), 0);
        due.is("LENGTHS of one CASE", y.rule(7), 18);
    }

    private static void whatAFaultLeaves(Due due) {
        due.group("promises 4 and 5, a FAULT");
        SnuffCourt x = Due.told("case wax 5 1 wax 5;first 2;draught 1 1;docket 0 0;");
        x.see(0, 0, 1);
        x.keep(1);
        x.hear(0, 0);
        due.is("refused", Due.tell(x, "case bees 9 bees 9;case bees 9 bees 9;long 9;docket;draught 0 0;"), -72);
        due.is("fault", x.fault(), 3);
        due.is("fault again", x.fault(), 3);
        due.is("tape", x.count(2), 0);
        due.is("CASES", x.rule(0), 1);
        due.is("HABIT", x.judge(0, 0), 0);
        due.is("SLOW", x.judge(0, 1), 2);
        due.is("DRAUGHTS", x.rule(2), 1);
        due.is("HEARINGS", x.rule(3), 1);
        due.is("KIND", x.flame(0, 0, 0), 1);
        due.is("VERDICT", x.suit(0, 0), 1);
        due.is("SEEN", x.count(0), 1);
        due.is("IMAGES", x.count(1), 1);
        due.is("taken", Due.tell(x, "first 1;"), 1);
        due.is("no fault", x.fault(), 0);
    }
}
