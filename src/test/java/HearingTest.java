/** Promises 18 to 22: hearings, the appeal, what comes by the docket. */
final class HearingTest {
    private static final int BAD = SnuffCourt.BAD;
    private static final int STATE = SnuffCourt.STATE;
    private static final int NONE = SnuffCourt.NONE;

    private HearingTest() {
    }

    static void run(Due due) {
        habits(due);
        alike(due);
        burningDown(due);
        draughts(due);
        hear(due);
        appeal(due);
        foretell(due);
        docket(due);
    }

    private static void foretold(Due due, SnuffCourt x, int verdict, int minute, int lengths) {
        due.is("VERDICT", x.foretell(0, 0, 0), verdict);
        due.is("MINUTE", x.foretell(0, 0, 1), minute);
        due.is("LENGTHS", x.foretell(0, 0, 2), lengths);
    }

    /** In MINUTE 2 tallow has 4 left and wax 6: the longer one is another one than at first. */
    private static void habits(Due due) {
        due.group("GOES by HABIT");
        SnuffCourt x = Due.told("case tallow 10 2 wax 10 1;first 2;");
        foretold(due, x, 2, 2, 10);
        x.train(0, 0, 1);
        foretold(due, x, 1, 2, 10);
        x.train(0, 0, 2);
        foretold(due, x, 2, 2, 10);
        x.train(0, 0, 3);
        foretold(due, x, 1, 2, 10);
        x.trim(0, 1, 2, 3);
        foretold(due, x, 2, 2, 10);
        x.trim(0, 0, 1, 12);
        x.train(0, 0, 1);
        foretold(due, x, 2, 2, 12);
        x.train(0, 0, 2);
        foretold(due, x, 1, 2, 12);
        x.trim(0, 0, 1, 13);
        foretold(due, x, 1, 2, 13);
        x.train(0, 0, 1);
        foretold(due, x, 2, 2, 13);
    }

    private static void alike(Due due) {
        due.group("GOES by HABIT, alike");
        int[] dues = {2, 2, 1, 2};
        for (int habit = 0; habit < 4; habit++) {
            SnuffCourt x = Due.told("case wax 10 4 wax 10 4;first 3;");
            x.train(0, 0, habit);
            foretold(due, x, dues[habit], 3, 8);
        }
    }

    private static void burningDown(Due due) {
        due.group("burnt to the socket");
        foretold(due, Due.told("case tallow 0 wax 9;long 5;"), 2, 0, 9);
        foretold(due, Due.told("case tallow 9 wax 0;long 5;"), 1, 0, 9);
        foretold(due, Due.told("case tallow 0 wax 0;long 5;"), 3, 0, 0);
        foretold(due, Due.told("case tallow 3 wax 3;long 5;"), 2, 1, 1);
        foretold(due, Due.told("case tallow 4 wax 3;long 5;"), 3, 2, 0);
        foretold(due, Due.told("case bees 2 thief 12;long 5;"), 3, 2, 0);
        foretold(due, Due.told("case bees 3 thief 12;long 5;"), 1, 2, 1);
        foretold(due, Due.told("case bees 99 thief 13;long 3;"), 1, 3, 96);
        foretold(due, Due.told("case bees 99 thief 99;bare 9;"), 2, 9, 90 + 45);
        foretold(due, Due.told("case bees 99 thief 99;first 1;"), 2, 1, 98 + 93);
        foretold(due, Due.told("case bees 9 thief 99;long 9;"), 2, 9, 45);
    }

    private static void draughts(Due due) {
        due.group("draughts");
        foretold(due, Due.told("case wax 9 3 wax 9 2;first 4;draught 2 3;"), 1, 2, 10);
        foretold(due, Due.told("case wax 9 3 wax 9 2;first 4;draught 2 2;"), 2, 4, 2);
        foretold(due, Due.told("case wax 9 3 wax 9 2;first 4;draught 2 4;"), 3, 2, 10);
        foretold(due, Due.told("case wax 9 1 wax 9 2;first 4;draught 0 2;"), 2, 0, 18);
        foretold(due, Due.told("case wax 9 3 wax 9 2;first 4;draught 4 3;"), 1, 4, 2);
        foretold(due, Due.told("case wax 9 3 wax 9 2;first 4;draught 5 9;"), 2, 4, 2);
        foretold(due, Due.told("case wax 9 3 wax 9 2;first 4;draught 1 3;draught 1 1;"), 1, 1, 14);
        foretold(due, Due.told("case wax 9 3 wax 9 2;first 4;draught 1 1;draught 1 4;"), 3, 1, 14);
        foretold(due, Due.told("case wax 9 wax 9;first 4;draught 3 1;"), 3, 3, 6);
    }

    private static void hear(Due due) {
        due.group("promise 18");
        SnuffCourt x = Due.told("case tallow 10 wax 10;case thief 6 wax 1;case wax 6 wax 1;first 2;long 3;");
        due.is("CASE 0", x.hear(0, 0), 2);
        due.is("LENGTH 0 0", x.flame(0, 0, 1), 4);
        due.is("LENGTH 0 1", x.flame(0, 1, 1), 6);
        due.is("VERDICT", x.suit(0, 0), 2);
        due.is("MINUTE", x.suit(0, 2), 2);
        due.is("JUDGE", x.suit(0, 3), 0);
        due.is("not APPEALED", x.suit(0, 1), 0);
        due.is("again", x.hear(0, 1), STATE);
        due.is("again by nobody", x.hear(0, 2), BAD);
        due.is("CASE 1", x.hear(1, 1), 3);
        due.is("CASE 2", x.hear(2, 1), 1);
        due.is("LENGTH 2 1", x.flame(2, 1, 1), 0);
        due.is("no CASE", x.hear(3, 0), BAD);
        due.is("no CASE -1", x.hear(-1, 0), BAD);
        due.is("no JUDGE -1", x.hear(2, -1), BAD);
    }

    private static void appeal(Due due) {
        due.group("promise 19");
        SnuffCourt x = Due.told("case tallow 10 wax 10;case thief 6 wax 1;case bees 3 wax 2;first 2;");
        due.is("no VERDICT", x.appeal(0), STATE);
        x.hear(0, 0);
        due.is("LENGTHS", x.appeal(0), 10);
        due.is("VERDICT", x.suit(0, 0), 0);
        due.is("APPEALED", x.suit(0, 1), 1);
        due.is("no VERDICT again", x.appeal(0), STATE);
        x.hear(0, 0);
        due.is("APPEALED already", x.appeal(0), STATE);
        due.is("VERDICT stays", x.suit(0, 0), 2);
        x.hear(1, 0);
        due.is("both burnt down", x.appeal(1), 2);
        due.is("LENGTH 1 0", x.flame(1, 0, 1), 1);
        due.is("LENGTH 1 1", x.flame(1, 1, 1), 1);
        x.hear(2, 0);
        due.is("one burnt down", x.appeal(2), 3);
        due.is("LENGTH 2 0", x.flame(2, 0, 1), 2);
        due.is("LENGTH 2 1", x.flame(2, 1, 1), 1);
        SnuffCourt y = Due.told("case wax 1 wax 0;case wax 1 wax 0;case wax 0 wax 0;case wax 0 wax 0;first 1;");
        y.hear(1, 0);
        due.is("of CASE 1 alone", y.appeal(1), 2);
        due.is("not of CASE 0", y.flame(0, 1, 1), 0);
        due.is("not of CASE 2", y.flame(2, 0, 1), 0);
        y.hear(3, 0);
        due.is("of CASE 3", y.appeal(3), 2);
        due.is("of CASE 3, SIDE 1", y.flame(3, 1, 1), 1);
        due.is("no CASE", x.appeal(3), BAD);
        due.is("no CASE -1", x.appeal(-1), BAD);
    }

    private static void foretell(Due due) {
        due.group("promise 20");
        SnuffCourt x = Due.told("case tallow 10 wax 10;first 2;long 1;");
        due.is("VERDICT", x.foretell(0, 1, 0), 1);
        due.is("MINUTE", x.foretell(0, 1, 1), 1);
        due.is("LENGTHS", x.foretell(0, 1, 2), 15);
        due.is("nothing heard", x.suit(0, 0), 0);
        due.is("nothing burnt", x.rule(7), 20);
        x.hear(0, 0);
        due.is("its VERDICT aside", x.foretell(0, 1, 0), 1);
        due.is("its VERDICT aside, LENGTHS", x.foretell(0, 1, 2), 5);
        due.is("its VERDICT stays", x.suit(0, 0), 2);
        due.is("its JUDGE stays", x.suit(0, 3), 0);
        due.is("no CASE", x.foretell(1, 0, 0), BAD);
        due.is("no JUDGE", x.foretell(0, 2, 0), BAD);
        due.is("3", x.foretell(0, 0, 3), BAD);
        due.is("-1", x.foretell(0, 0, -1), BAD);
    }

    private static void docket(Due due) {
        due.group("promises 21 and 22");
        SnuffCourt x = Due.told("case tallow 10 wax 10;case thief 6 wax 1;case bees 9 wax 5;case wax 9 wax 9;"
                + "first 2;long 1;short 1;docket 0 0 1 0 0 1 2 1;");
        due.is("won by SIDE 0", x.runs(0), 0);
        due.is("won by SIDE 1", x.runs(1), 1 + 4);
        due.is("hung", x.runs(2), 2);
        due.is("passed over", x.runs(3), 2);
        due.is("MINUTES", x.runs(4), 3 + 2 + 2);
        int[] verdicts = {2, 3, 2, 0};
        for (int c = 0; c < 4; c++) {
            due.is("ahead " + c, x.ahead(c), verdicts[c]);
            due.is("no VERDICT " + c, x.suit(c, 0), 0);
        }
        x.plan(3, 2);
        due.is("the last one", x.ahead(3), 1);
        due.is("SIDE 0 then", x.runs(0), 8);
        x.cut(2);
        due.is("none is passed over", x.runs(3), NONE);
        due.is("fewer MINUTES", x.runs(4), 5);
        x.hear(0, 1);
        due.is("heard already", x.runs(0) + 16 * x.runs(1), 1);
        due.is("passed over, the first", x.runs(3), 0);
        due.is("MINUTES of one", x.runs(4), 2);
        due.is("ahead, heard already", x.ahead(0), 1);
        x.cut(0);
        due.is("without a docket", x.runs(0), 1);
        due.is("without a docket, MINUTES", x.runs(4), 0);
        SnuffCourt y = Due.told("case wax 9 5 wax 9;first 2;draught 1 3;docket 0 0;");
        due.is("by a draught", y.runs(0), 1);
        due.is("by a draught, MINUTES", y.runs(4), 2);
        due.is("by a draught, ahead", y.ahead(0), 1);
        due.is("5", x.runs(5), BAD);
        due.is("-1", x.runs(-1), BAD);
        due.is("no CASE", x.ahead(4), BAD);
        due.is("no CASE -1", x.ahead(-1), BAD);
        due.is("no CASES at all", new SnuffCourt().ahead(0), BAD);
    }
}
