/** The edges of part 2 and of promises 18 to 22: hearings, sentence by sentence. */
final class EdgeHearingTest {
    private static final int BAD = SnuffCourt.BAD;
    private static final int STATE = SnuffCourt.STATE;
    private static final int NONE = SnuffCourt.NONE;

    private EdgeHearingTest() {
    }

    static void run(Due due, Edges edges) {
        out(due, edges);
        byTheJudge(due, edges);
        ends(due, edges);
        appealed(due, edges);
        byTheDocket(due, edges);
        hear(due, edges);
        appeal(due, edges);
        foretell(due, edges);
        runs(due, edges);
    }

    private static void foretold(Due due, String text, int verdict, int minute, int lengths) {
        SnuffCourt x = Due.told(text);
        due.is(text + " VERDICT", x.foretell(0, 0, 0), verdict);
        due.is(text + " MINUTE", x.foretell(0, 0, 1), minute);
        due.is(text + " LENGTHS", x.foretell(0, 0, 2), lengths);
    }

    private static void out(Due due, Edges edges) {
        edges.of(Edges.HEARINGS, "A HEARING of a CASE without VERDICT by a JUDGE, in MINUTES 0, 1 and so on: "
                + "a FLAME of LENGTH 0 is out");
        foretold(due, "case wax 0 wax 9;long9;", 2, 0, 9);
        foretold(due, "case wax 9 wax 0;long9;", 1, 0, 9);
        foretold(due, "case wax 0 wax 0;long9;", 3, 0, 0);
        foretold(due, "case bees 1 bees 9;long9;", 2, 1, 8);
        foretold(due, "case bees 9 bees 1;long9;", 1, 1, 8);
        foretold(due, "case wax 0 9 wax 9;long9;draught 0 1;", 3, 0, 9);

        edges.of(Edges.HEARINGS, "one of less GUARD than the STRENGTH of a DRAUGHT in this MINUTE is out");
        foretold(due, "case bees 9 3 bees 9 2;first4;draught 1 3;", 1, 1, 16);
        foretold(due, "case bees 9 2 bees 9 3;first4;draught 1 3;", 2, 1, 16);
        foretold(due, "case bees 9 2 bees 9 2;first4;draught 1 3;", 3, 1, 16);
        foretold(due, "case bees 9 3 bees 9 3;first4;draught 1 3;", 2, 4, 10);
        foretold(due, "case bees 9 9 bees 9 8;first4;draught 0 9;", 1, 0, 18);
        foretold(due, "case bees 9 1 bees 9 0;first4;draught 0 1;", 1, 0, 18);
        foretold(due, "case bees 9 3 bees 9;first4;draught 5 9;", 2, 4, 10);
        foretold(due, "case bees 99 3 bees 99;first9;draught 20 9;", 2, 9, 180);
        foretold(due, "case bees 99 3 bees 99;first9;draught 9 3;", 1, 9, 180);
        foretold(due, "case bees 9 3 bees 9;first4;draught 1 1;draught 1 4;draught 1 2;", 3, 1, 16);
        foretold(due, "case bees 9 3 bees 9;first4;draught 2 9;draught 1 1;", 1, 1, 16);
    }

    private static void byTheJudge(Due due, Edges edges) {
        edges.of(Edges.HEARINGS, "in the MINUTE of as many as he is SLOW, the JUDGE puts one out, if both burn still");
        foretold(due, "case bees 9 bees 9;first1;", 2, 1, 16);
        foretold(due, "case bees 20 bees 20;first9;", 2, 9, 22);
        foretold(due, "case bees 9 3 bees 9;first4;draught 4 1;", 1, 4, 10);
        foretold(due, "case bees 9 bees 4;first4;", 1, 4, 5);
        foretold(due, "case bees 9 bees 5;first4;", 2, 4, 6);
        foretold(due, "case bees 4 bees 4;first4;", 3, 4, 0);
        foretold(due, "case bees 9 bees 9;first4;draught 4 1;", 3, 4, 10);

        edges.of(Edges.HEARINGS, "Is one out, the other one won; are both, it is hung: it ENDS in this MINUTE");
        foretold(due, "case bees 2 thief 12;long5;", 3, 2, 0);
        foretold(due, "case bees 2 thief 13;long5;", 2, 2, 1);
        foretold(due, "case bees 3 thief 12;long5;", 1, 2, 1);
        foretold(due, "case bees 1 9 bees 9 1;long5;draught 1 2;", 3, 1, 8);
    }

    private static void ends(Due due, Edges edges) {
        edges.of(Edges.HEARINGS, "Else each LENGTH is less by what it BURNS (0 at least), and the next MINUTE comes");
        foretold(due, "case thief 1 bees 9;long5;", 2, 1, 8);
        foretold(due, "case tallow 2 tallow 1;long5;", 3, 1, 0);
        foretold(due, "case tallow 3 tallow 4;long5;", 2, 1, 1);
        foretold(due, "case wax 99 thief 99;long9;", 2, 9, 81 + 45);

        edges.of(Edges.HEARINGS, "LENGTHS stay as they are when it ENDS");
        SnuffCourt x = Due.told("case tallow 20 wax 20;first3;");
        due.is("heard", x.hear(0, 0), 2);
        due.is("SIDE 0, though it is put out", x.flame(0, 0, 1), 11);
        due.is("SIDE 1", x.flame(0, 1, 1), 14);
        due.is("AN APPEAL leaves them", x.appeal(0), 25);
        due.is("heard again from there on", x.hear(0, 0), 2);
        due.is("SIDE 0 then", x.flame(0, 0, 1), 2);
        due.is("SIDE 1 then", x.flame(0, 1, 1), 8);
    }

    private static void appealed(Due due, Edges edges) {
        edges.of(Edges.HEARINGS, "AN APPEAL, once for each CASE with a VERDICT: it has none again; "
                + "FLAMES of LENGTH 0 are of LENGTH 1");
        SnuffCourt x = Due.told("case wax 0 wax 0;case wax 0 wax 7;case wax 1 wax 7;long1;");
        int[] sums = {2, 8, 6};
        for (int c = 0; c < 3; c++) {
            due.is("none yet, " + c, x.appeal(c), STATE);
            x.hear(c, 0);
            due.is("once, " + c, x.appeal(c), sums[c]);
            due.is("none again, " + c, x.suit(c, 0), 0);
            x.hear(c, 0);
            due.is("not twice, " + c, x.appeal(c), STATE);
        }
        SnuffCourt y = Due.told("case wax 0 wax 0;case wax 0 wax 0;case wax 0 wax 0;long1;");
        y.hear(1, 0);
        due.is("of its own FLAMES", y.appeal(1), 2);
        due.is("of no others", y.rule(7), 2);
    }

    private static void byTheDocket(Due due, Edges edges) {
        edges.of(Edges.HEARINGS, "BY THE DOCKET: its HEARINGS from now on; those of CASES with a VERDICT are passed over");
        SnuffCourt x = Due.told("case bees 9 bees 8;case bees 9 bees 8;first1;long1;short1;docket 0 0 0 1 1 1 0 2;");
        due.is("CASE 0 is heard once", x.ahead(0), 2);
        due.is("CASE 1", x.ahead(1), 2);
        due.is("passed over", x.runs(3), 1);
        x.hear(0, 2);
        due.is("with a VERDICT already", x.ahead(0), 1);
        due.is("passed over then", x.runs(3), 0);
        x.appeal(0);
        due.is("from now on", x.ahead(0), 2);
        due.is("without a VERDICT again", x.runs(3), 1);

        edges.of(Edges.HEARINGS, "SEEN (6): a HEARING of a CASE, as it is when that is asked of "
                + "(not from see() on; its VERDICT aside), by a JUDGE, would bring a VERDICT");
        SnuffCourt y = Due.told("case tallow 10 wax 12;long3;");
        due.is("see", y.see(0, 0, 1), 1);
        due.is("by long alone", y.habits(0), 2);
        y.trim(0, 0, 1, 99);
        due.is("as it is now", y.habits(0), 4);
        y.hear(0, 0);
        due.is("LENGTHS 90 and 6 now, the VERDICT 2 aside", y.habits(0), 15);
        for (int i = 2; i <= 6; i++) {
            due.is("the " + i, y.see(0, 0, 1), i);
        }
        due.is("a seventh", y.see(0, 0, 1), SnuffCourt.FULL);
    }

    private static void hear(Due due, Edges edges) {
        edges.of(18, "A HEARING of a CASE by a JUDGE: its VERDICT. BAD; STATE: it has one.");
        SnuffCourt x = Due.told("case wax9wax0;case wax0wax9;case wax0wax0;case bees9bees8;long1;bare1;short1;");
        due.is("CASE 4", x.hear(4, 0), BAD);
        due.is("CASE -1", x.hear(-1, 0), BAD);
        due.is("JUDGE 3", x.hear(3, 3), BAD);
        due.is("JUDGE -1", x.hear(3, -1), BAD);
        int[] verdicts = {1, 2, 3, 1};
        for (int c = 0; c < 4; c++) {
            due.is("CASE " + c, x.hear(c, 2), verdicts[c]);
            due.is("it has one, " + c, x.hear(c, 0), STATE);
            due.is("it has one, no JUDGE, " + c, x.hear(c, 3), BAD);
            due.is("its JUDGE stays, " + c, x.suit(c, 3), 2);
        }
        due.is("no CASES", Due.told("long1;").hear(0, 0), BAD);
        due.is("no JUDGES", Due.told("case wax1wax1;").hear(0, 0), BAD);
    }

    private static void appeal(Due due, Edges edges) {
        edges.of(19, "AN APPEAL of a CASE: LENGTHS of both FLAMES then, summed. "
                + "BAD; STATE: it has no VERDICT, it is APPEALED already.");
        SnuffCourt x = Due.told("case bees 99 bees 99;case wax 0 wax 0;long1;");
        due.is("no VERDICT", x.appeal(0), STATE);
        due.is("no VERDICT, LENGTHS stay", x.rule(7), 198);
        due.is("not APPEALED", x.suit(0, 1), 0);
        x.hear(0, 0);
        due.is("the most", x.appeal(0), 196);
        due.is("APPEALED, no VERDICT", x.appeal(0), STATE);
        x.hear(0, 0);
        due.is("APPEALED already", x.appeal(0), STATE);
        due.is("its VERDICT stays", x.suit(0, 0), 2);
        x.hear(1, 0);
        due.is("the least", x.appeal(1), 2);
        due.is("CASE 2", x.appeal(2), BAD);
        due.is("CASE -1", x.appeal(-1), BAD);
        due.is("no CASES", new SnuffCourt().appeal(0), BAD);
    }

    private static void foretell(Due due, Edges edges) {
        edges.of(20, "were it now (its VERDICT aside): that VERDICT (what 0), the MINUTE in which it ENDS (1), "
                + "LENGTHS of both then, summed (2). BAD.");
        SnuffCourt x = Due.told("case wax 20 tallow 20;first3;short4;");
        x.hear(0, 0);
        due.is("VERDICT", x.foretell(0, 1, 0), 1);
        due.is("MINUTE", x.foretell(0, 1, 1), 4);
        due.is("LENGTHS", x.foretell(0, 1, 2), 6);
        due.is("VERDICT stays", x.suit(0, 0), 2);
        due.is("MINUTE stays", x.suit(0, 2), 3);
        due.is("LENGTHS stay", x.rule(7), 25);
        due.is("CASE 1", x.foretell(1, 0, 0), BAD);
        due.is("CASE -1", x.foretell(-1, 0, 0), BAD);
        due.is("JUDGE 2", x.foretell(0, 2, 0), BAD);
        due.is("JUDGE -1", x.foretell(0, -1, 0), BAD);
        due.is("3", x.foretell(0, 0, 3), BAD);
        due.is("-1", x.foretell(0, 0, -1), BAD);
    }

    private static void runs(Due due, Edges edges) {
        edges.of(21, "the first HEARING that is passed over (3: its place on THE DOCKET, from 0 on; NONE), "
                + "MINUTES of all its HEARINGS, one more each (4). BAD.");
        SnuffCourt x = Due.told("case bees 99 bees 98;case bees 99 bees 98;case bees 99 bees 98;case wax 0 wax 0;"
                + "first9;long8;short7;");
        due.is("an empty one, passed over", x.runs(3), NONE);
        due.is("an empty one, MINUTES", x.runs(4), 0);
        due.is("an empty one, hung", x.runs(2), 0);
        for (int c = 0; c < 4; c++) {
            x.plan(c, c % 3);
        }
        due.is("none is passed over", x.runs(3), NONE);
        due.is("MINUTES 9, 8, 7, 0", x.runs(4), 10 + 9 + 8 + 1);
        due.is("won by SIDE 0", x.runs(0), 4);
        due.is("won by SIDE 1", x.runs(1), 3);
        due.is("hung", x.runs(2), 8);
        x.plan(3, 1);
        x.plan(2, 1);
        due.is("the first of two", x.runs(3), 4);
        due.is("they take no MINUTES", x.runs(4), 28);
        x.hear(0, 1);
        due.is("place 0", x.runs(3), 0);
        due.is("MINUTES without it", x.runs(4), 18);
        due.is("nothing is heard by it", x.suit(1, 0), 0);
        SnuffCourt y = Due.told("case bees 9 bees 8;case bees 9 bees 8;case bees 9 bees 8;case bees 9 bees 8;"
                + "first1;docket 0 0 1 0 2 0 3 0;");
        due.is("MINUTES of four", y.runs(4), 8);
        y.plan(3, 0);
        y.cut(4);
        due.is("none behind a cut", y.runs(3), NONE);
        SnuffCourt z = Due.told("case bees 9 9 bees 8;first5;draught 2 1;docket 0 0;");
        due.is("a draught, won by SIDE 0", z.runs(0), 1);
        due.is("a draught, MINUTES", z.runs(4), 3);
        due.is("a draught, VERDICT", z.ahead(0), 1);
        due.is("5", x.runs(5), BAD);
        due.is("-1", x.runs(-1), BAD);

        edges.of(22, "BY THE DOCKET: VERDICT of a CASE then. BAD.");
        due.is("heard already", x.ahead(0), 2);
        due.is("by the docket", x.ahead(2), 1);
        due.is("hung", x.ahead(3), 3);
        x.cut(0);
        due.is("not on it", x.ahead(2), 0);
        due.is("CASE 4", x.ahead(4), BAD);
        due.is("CASE -1", x.ahead(-1), BAD);
        due.is("no CASES", new SnuffCourt().ahead(0), BAD);
    }
}
