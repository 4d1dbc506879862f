/** Promises 6 to 17: what there is, what is changed. */
final class StateTest {
    private static final int BAD = SnuffCourt.BAD;
    private static final int STATE = SnuffCourt.STATE;
    private static final int FULL = SnuffCourt.FULL;
    private static final int NONE = SnuffCourt.NONE;
    // CASE 0 is won by SIDE 0, CASE 1 by SIDE 1, CASE 2 is hung, CASE 3 is won by SIDE 1 before JUDGE 0
    private static final String FOUR = "case wax 9 5 bees 0 1;case thief 0 2 bees 7 3;case tallow 0 wax 0;"
            + "case tallow 20 4 wax 30;first 3;short 5;draught 12 3;draught 20 9;docket 3 1 0 0;";

    private StateTest() {
    }

    static void run(Due due) {
        rule(due);
        flame(due);
        suit(due);
        judgeAndDraughtAndDocket(due);
        trim(due);
        train(due);
        blowAndCalm(due);
        planAndCut(due);
    }

    private static void rule(Due due) {
        due.group("promise 6");
        SnuffCourt x = Due.told(FOUR);
        due.is("CASES", x.rule(0), 4);
        due.is("JUDGES", x.rule(1), 2);
        due.is("DRAUGHTS", x.rule(2), 2);
        due.is("HEARINGS", x.rule(3), 2);
        due.is("LENGTHS", x.rule(7), 66);
        for (int what = 4; what <= 6; what++) {
            due.is("VERDICTS", x.rule(what), 0);
        }
        for (int c = 0; c < 4; c++) {
            x.hear(c, 0);
        }
        due.is("won by SIDE 0", x.rule(4), 1);
        due.is("won by SIDE 1", x.rule(5), 2 + 8);
        due.is("hung", x.rule(6), 4);
        due.is("LENGTHS then", x.rule(7), 16 + 11 + 24);
        due.is("8", x.rule(8), BAD);
        due.is("-1", x.rule(-1), BAD);
    }

    private static void flame(Due due) {
        due.group("promise 7");
        SnuffCourt x = Due.told("case tallow 1 2 wax 3 4;case bees 5 6 thief 7 8;");
        int[] dues = {0, 1, 2, 3, 1, 3, 4, 2, 2, 5, 6, 1, 3, 7, 8, 6};
        for (int i = 0; i < dues.length; i++) {
            due.is("flame " + i, x.flame(i / 8, i / 4 % 2, i % 4), dues[i]);
        }
        due.is("no CASE 2", x.flame(2, 0, 0), BAD);
        due.is("no CASE -1", x.flame(-1, 0, 0), BAD);
        due.is("no SIDE 2", x.flame(0, 2, 0), BAD);
        due.is("no SIDE -1", x.flame(0, -1, 0), BAD);
        due.is("4", x.flame(0, 0, 4), BAD);
        due.is("-1", x.flame(0, 0, -1), BAD);
    }

    private static void suit(Due due) {
        due.group("promise 8");
        SnuffCourt x = Due.told(FOUR);
        due.is("VERDICT at first", x.suit(3, 0), 0);
        due.is("APPEALED at first", x.suit(3, 1), 0);
        due.is("MINUTE at first", x.suit(3, 2), NONE);
        due.is("JUDGE at first", x.suit(3, 3), NONE);
        due.is("heard", x.hear(3, 1), 2);
        due.is("VERDICT", x.suit(3, 0), 2);
        due.is("MINUTE", x.suit(3, 2), 5);
        due.is("JUDGE", x.suit(3, 3), 1);
        due.is("appealed", x.appeal(3), 25);
        due.is("VERDICT again", x.suit(3, 0), 0);
        due.is("APPEALED", x.suit(3, 1), 1);
        due.is("MINUTE stays", x.suit(3, 2), 5);
        due.is("JUDGE stays", x.suit(3, 3), 1);
        due.is("the next one", x.suit(2, 2), NONE);
        due.is("heard again", x.hear(3, 0), 2);
        due.is("MINUTE anew", x.suit(3, 2), 2);
        due.is("JUDGE anew", x.suit(3, 3), 0);
        due.is("no CASE 4", x.suit(4, 0), BAD);
        due.is("no CASE -1", x.suit(-1, 0), BAD);
        due.is("4", x.suit(0, 4), BAD);
        due.is("-1", x.suit(0, -1), BAD);
    }

    private static void judgeAndDraughtAndDocket(Due due) {
        due.group("promises 9 to 11");
        SnuffCourt x = Due.told(FOUR);
        int[] judges = {0, 3, 2, 5};
        int[] draughts = {12, 3, 20, 9};
        int[] docket = {3, 1, 0, 0};
        for (int i = 0; i < 4; i++) {
            due.is("judge " + i, x.judge(i / 2, i % 2), judges[i]);
            due.is("draught " + i, x.draught(i / 2, i % 2), draughts[i]);
            due.is("docket " + i, x.docket(i / 2, i % 2), docket[i]);
        }
        int[][] wrong = {{2, 0}, {-1, 0}, {0, 2}, {0, -1}, {Integer.MAX_VALUE, 1}, {Integer.MIN_VALUE, 1}};
        for (int[] w : wrong) {
            due.is("judge " + w[0] + " " + w[1], x.judge(w[0], w[1]), BAD);
            due.is("draught " + w[0] + " " + w[1], x.draught(w[0], w[1]), BAD);
            due.is("docket " + w[0] + " " + w[1], x.docket(w[0], w[1]), BAD);
        }
    }

    private static void trim(Due due) {
        due.group("promise 12");
        SnuffCourt x = Due.told(FOUR);
        due.is("KIND", x.trim(3, 1, 0, 3), 1);
        due.is("KIND then", x.flame(3, 1, 0), 3);
        due.is("BURNS then", x.flame(3, 1, 3), 6);
        due.is("LENGTH", x.trim(3, 1, 1, 99), 30);
        due.is("LENGTH then", x.flame(3, 1, 1), 99);
        due.is("GUARD", x.trim(3, 0, 2, 9), 4);
        due.is("GUARD then", x.flame(3, 0, 2), 9);
        due.is("GUARD of the other", x.flame(3, 1, 2), 0);
        due.is("to 0", x.trim(3, 0, 1, 0), 20);
        due.is("KIND 4", x.trim(3, 0, 0, 4), BAD);
        due.is("LENGTH 100", x.trim(3, 0, 1, 100), BAD);
        due.is("GUARD 10", x.trim(3, 0, 2, 10), BAD);
        due.is("below 0", x.trim(3, 0, 0, -1), BAD);
        due.is("3", x.trim(3, 0, 3, 0), BAD);
        due.is("-1", x.trim(3, 0, -1, 0), BAD);
        due.is("no SIDE", x.trim(3, 2, 0, 0), BAD);
        due.is("no CASE", x.trim(4, 0, 0, 0), BAD);
        x.hear(0, 0);
        due.is("with a VERDICT", x.trim(0, 0, 1, 5), STATE);
        due.is("with a VERDICT, no number", x.trim(0, 0, 1, 100), BAD);
        due.is("nothing changed", x.flame(0, 0, 1), 9);
        x.appeal(0);
        due.is("without it", x.trim(0, 0, 1, 5), 9);
    }

    private static void train(Due due) {
        due.group("promise 13");
        SnuffCourt x = Due.told(FOUR);
        due.is("HABIT", x.train(1, 0, 3), 2);
        due.is("HABIT again", x.train(1, 0, 0), 3);
        due.is("SLOW", x.train(1, 1, 9), 5);
        due.is("SLOW again", x.train(1, 1, 1), 9);
        due.is("HABIT then", x.judge(1, 0), 0);
        due.is("SLOW then", x.judge(1, 1), 1);
        due.is("the other", x.judge(0, 1), 3);
        due.is("HABIT 4", x.train(1, 0, 4), BAD);
        due.is("HABIT -1", x.train(1, 0, -1), BAD);
        due.is("SLOW 10", x.train(1, 1, 10), BAD);
        due.is("SLOW 0", x.train(1, 1, 0), BAD);
        due.is("2", x.train(1, 2, 1), BAD);
        due.is("-1", x.train(1, -1, 1), BAD);
        due.is("no JUDGE", x.train(2, 0, 1), BAD);
        due.is("no JUDGE -1", x.train(-1, 0, 1), BAD);
    }

    private static void blowAndCalm(Due due) {
        due.group("promises 14 and 15");
        SnuffCourt x = Due.told(FOUR);
        due.is("MINUTE 21", x.blow(21, 1), BAD);
        due.is("MINUTE -1", x.blow(-1, 1), BAD);
        due.is("STRENGTH 0", x.blow(0, 0), BAD);
        due.is("STRENGTH 10", x.blow(0, 10), BAD);
        due.is("the third", x.blow(0, 1), 3);
        due.is("the fourth", x.blow(20, 9), 4);
        due.is("the fifth", x.blow(0, 1), FULL);
        due.is("the fifth, no number", x.blow(0, 0), BAD);
        due.is("MINUTE", x.draught(2, 0), 0);
        due.is("STRENGTH", x.draught(2, 1), 1);
        due.is("calm 5", x.calm(5), BAD);
        due.is("calm -1", x.calm(-1), BAD);
        due.is("calm 4", x.calm(4), 4);
        due.is("calm 1", x.calm(1), 4);
        due.is("first alone", x.draught(0, 0), 12);
        due.is("no second", x.draught(1, 0), BAD);
        due.is("calm 2 then", x.calm(2), BAD);
        due.is("anew", x.blow(3, 4), 2);
        due.is("anew MINUTE", x.draught(1, 0), 3);
        due.is("calm 0", x.calm(0), 2);
        due.is("none", x.rule(2), 0);
    }

    private static void planAndCut(Due due) {
        due.group("promises 16 and 17");
        SnuffCourt x = Due.told(FOUR);
        due.is("no CASE", x.plan(4, 0), BAD);
        due.is("no CASE -1", x.plan(-1, 0), BAD);
        due.is("no JUDGE", x.plan(0, 2), BAD);
        due.is("no JUDGE -1", x.plan(0, -1), BAD);
        for (int i = 3; i <= 6; i++) {
            due.is("the " + i, x.plan(2, 1), i);
        }
        due.is("the seventh", x.plan(2, 1), FULL);
        due.is("the seventh, no JUDGE", x.plan(2, 2), BAD);
        due.is("its CASE", x.docket(5, 0), 2);
        due.is("its JUDGE", x.docket(5, 1), 1);
        due.is("cut 7", x.cut(7), BAD);
        due.is("cut -1", x.cut(-1), BAD);
        due.is("cut 6", x.cut(6), 6);
        due.is("cut 1", x.cut(1), 6);
        due.is("first alone", x.docket(0, 0), 3);
        due.is("no second", x.docket(1, 0), BAD);
        due.is("cut 2 then", x.cut(2), BAD);
        due.is("anew", x.plan(1, 0), 2);
        due.is("cut 0", x.cut(0), 2);
        due.is("none", x.rule(3), 0);
        due.is("on none", new SnuffCourt().plan(0, 0), BAD);
    }
}
