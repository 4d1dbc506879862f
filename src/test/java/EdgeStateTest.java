/** The edges of the terms and of promises 6 to 17: what there is and what is changed, sentence by sentence. */
final class EdgeStateTest {
    private static final int BAD = SnuffCourt.BAD;
    private static final int STATE = SnuffCourt.STATE;
    private static final int FULL = SnuffCourt.FULL;
    private static final int NONE = SnuffCourt.NONE;
    private static final String CASE = "case wax1wax1;";

    private EdgeStateTest() {
    }

    static void run(Due due, Edges edges) {
        about(due, edges);
        terms(due, edges);
        rule(due, edges);
        flame(due, edges);
        suit(due, edges);
        rows(due, edges);
        trim(due, edges);
        train(due, edges);
        draughts(due, edges);
        hearings(due, edges);
    }

    private static void about(Due due, Edges edges) {
        edges.of(Edges.ABOUT, "An object is used for at most 512 calls after it has been made; what later calls answer is free.");
        SnuffCourt x = new SnuffCourt();
        for (int i = 0; i < 510; i++) {
            due.is("feed", x.feed(' '), i < 160 ? i + 1 : FULL);
        }
        due.is("the 511th call", x.text(), 0);
        due.is("the 512th call", x.feed(' '), 1);
        for (int i = 0; i < 2000; i++) {
            x.feed("long1;".charAt(i % 6));
            x.end(i % 160);
        }
        x.text();
    }

    private static void terms(Due due, Edges edges) {
        edges.of(Edges.TERMS, "BAD -1 (a number is not as told, there is no such CASE, SIDE, JUDGE, DRAUGHT, IMAGE, SHEET), "
                + "STATE -2 (as told), FULL -3, NONE -4 (there is none), the first that fits");
        due.is("BAD", SnuffCourt.BAD, -1);
        due.is("STATE", SnuffCourt.STATE, -2);
        due.is("FULL", SnuffCourt.FULL, -3);
        due.is("NONE", SnuffCourt.NONE, -4);
        SnuffCourt x = Due.told(CASE + "long1;");
        x.hear(0, 0);
        due.is("hear: BAD ahead of STATE", x.hear(0, 1), BAD);
        due.is("trim: BAD ahead of STATE", x.trim(0, 0, 1, 100), BAD);
        due.is("back: BAD ahead of STATE", x.back(2), BAD);
        due.is("drift: BAD ahead of STATE", new SnuffCourt().drift(1, 61, 0), BAD);
        due.is("share: BAD ahead of NONE", Due.told(CASE).share(0, 11), BAD);
        due.is("swap: BAD ahead of NONE", x.swap(0, 2), BAD);
        for (int i = 0; i < 6; i++) {
            x.plan(0, 0);
            x.see(0, 0, 1);
            x.blow(1, 1);
        }
        due.is("plan: BAD ahead of FULL", x.plan(0, 1), BAD);
        due.is("see: BAD ahead of FULL", x.see(0, 0, 4), BAD);
        due.is("blow: BAD ahead of FULL", x.blow(21, 1), BAD);

        edges.of(Edges.TERMS, "what is refused changes nothing (but THE TAPE, as told)");
        due.is("plan", x.plan(0, 0), FULL);
        due.is("see", x.see(0, 0, 2), FULL);
        due.is("blow", x.blow(2, 2), FULL);
        due.is("trim", x.trim(0, 0, 1, 50), STATE);
        due.is("hear", x.hear(0, 0), STATE);
        due.is("HEARINGS", x.rule(3), 6);
        due.is("SEEN", x.count(0), 6);
        due.is("DRAUGHTS", x.rule(2), 4);
        due.is("LENGTH", x.flame(0, 0, 1), 0);
        due.is("MINUTE", x.suit(0, 2), 1);
        due.is("a text", Due.tell(x, "case wax 9 wax 9;draught 3 3;bare 7;docket 0 0;long"), -61);
        due.is("but THE TAPE", x.count(2), 0);
        due.is("HEARINGS stay", x.rule(3), 6);
        due.is("SEEN stay", x.count(0), 6);
        due.is("LENGTH stays", x.flame(0, 0, 1), 0);
        due.is("JUDGE stays", x.judge(0, 0), 1);

        edges.of(Edges.TERMS, "What is numbered has its numbers from 0 on, as it comes, where nothing else is told");
        SnuffCourt y = Due.told("bare9;draught 7 8;case wax 5 wax 6;long8;case wax 7 wax 8;draught 5 6;");
        due.is("CASE 0", y.flame(0, 0, 1), 5);
        due.is("CASE 1, SIDE 1", y.flame(1, 1, 1), 8);
        due.is("JUDGE 0", y.judge(0, 1), 9);
        due.is("JUDGE 1", y.judge(1, 1), 8);
        due.is("DRAUGHT 0", y.draught(0, 0), 7);
        due.is("DRAUGHT 1", y.draught(1, 0), 5);

        edges.of(Edges.TERMS, "Fractions are in lowest terms, told as two numbers, first the numerator, "
                + "then the denominator, which is above 0 (0 is 0 by 1)");
        SnuffCourt z = Due.told("case wax 9 5 wax 9 3;first3;draught 1 4;draught 1 4;");
        due.is("4 out of 100", z.luck(2, 0, 1, 0, 0), 1);
        due.is("4 out of 100, denominator", z.luck(2, 0, 1, 0, 1), 25);
        due.is("0", z.luck(0, 0, 1, 0, 0), 0);
        due.is("0 by 1", z.luck(0, 0, 1, 0, 1), 1);
        due.is("1", z.luck(0, 0, 0, 0, 0), 1);
        due.is("1 by 1", z.luck(0, 0, 0, 0, 1), 1);
        due.is("a mean of 0", z.mean(5, 0, 0), 0);
        due.is("a mean of 0 by 1", z.mean(5, 0, 1), 1);
    }

    private static void rule(Due due, Edges edges) {
        edges.of(6, "4 CASES that SIDE 0 won, 5 that SIDE 1 won, 6 that are hung (bits each), 7 all LENGTHS. BAD.");
        SnuffCourt x = Due.told("case wax9wax0;case wax0wax9;case wax0wax0;case wax9wax0;long1;");
        for (int what = 4; what <= 6; what++) {
            due.is("none yet " + what, x.rule(what), 0);
        }
        for (int c = 0; c < 4; c++) {
            x.hear(c, 0);
        }
        due.is("won by SIDE 0", x.rule(4), 1 + 8);
        due.is("won by SIDE 1", x.rule(5), 2);
        due.is("hung", x.rule(6), 4);
        due.is("all of LENGTH 99", Due.told("case thief99thief99;".repeat(4)).rule(7), 792);
        due.is("all of LENGTH 0", Due.told("case thief0thief0;".repeat(4)).rule(7), 0);
        due.is("-1", x.rule(-1), BAD);
        due.is("8", x.rule(8), BAD);
    }

    private static void flame(Due due, Edges edges) {
        edges.of(7, "Of a FLAME of a CASE: 0 KIND, 1 LENGTH, 2 GUARD, 3 BURNS. BAD.");
        SnuffCourt x = Due.told(CASE.repeat(3) + "case tallow 1 2 thief 99 9;");
        int[][] flames = {{0, 1, 2, 3}, {3, 99, 9, 6}};
        for (int i = 0; i < 8; i++) {
            due.is("CASE 3, " + i, x.flame(3, i / 4, i % 4), flames[i / 4][i % 4]);
        }
        due.is("CASE 4", x.flame(4, 0, 0), BAD);
        due.is("CASE -1", x.flame(-1, 0, 0), BAD);
        due.is("SIDE 2", x.flame(0, 2, 0), BAD);
        due.is("SIDE -1", x.flame(0, -1, 0), BAD);
        due.is("4", x.flame(0, 0, 4), BAD);
        due.is("-1", x.flame(0, 0, -1), BAD);
        due.is("no CASES", new SnuffCourt().flame(0, 0, 0), BAD);
    }

    private static void suit(Due due, Edges edges) {
        edges.of(8, "0 VERDICT, 1 whether it is APPEALED (1, 0), 2 in which MINUTE its latest HEARING ENDED "
                + "(NONE: there was none), 3 by which JUDGE that was (NONE). BAD.");
        SnuffCourt x = Due.told("case wax 0 wax 9;case bees 99 bees 99;long1;first9;");
        int[] first = {0, 0, NONE, NONE};
        int[] heard = {2, 0, 0, 0};
        int[] appealed = {0, 1, 0, 0};
        int[] again = {2, 1, 1, 0};
        for (int what = 0; what < 4; what++) {
            due.is("at first, " + what, x.suit(0, what), first[what]);
        }
        x.hear(0, 0);
        for (int what = 0; what < 4; what++) {
            due.is("heard, MINUTE 0, JUDGE 0, " + what, x.suit(0, what), heard[what]);
            due.is("the other one, " + what, x.suit(1, what), first[what]);
        }
        x.appeal(0);
        for (int what = 0; what < 4; what++) {
            due.is("APPEALED, " + what, x.suit(0, what), appealed[what]);
        }
        x.foretell(0, 1, 0);
        x.runs(0);
        x.hear(0, 0);
        for (int what = 0; what < 4; what++) {
            due.is("heard again, " + what, x.suit(0, what), again[what]);
        }
        x.hear(1, 1);
        due.is("the last MINUTE there is", x.suit(1, 2), 9);
        due.is("JUDGE 1", x.suit(1, 3), 1);
        due.is("CASE 2", x.suit(2, 0), BAD);
        due.is("CASE -1", x.suit(-1, 0), BAD);
        due.is("4", x.suit(0, 4), BAD);
        due.is("-1", x.suit(0, -1), BAD);
    }

    private static void rows(Due due, Edges edges) {
        SnuffCourt x = Due.told(CASE.repeat(4) + "long1;first2;bare9;draught 0 1;draught 20 9;docket 3 2 0 0;");
        edges.of(9, "Of a JUDGE: 0 HABIT, 1 SLOW. BAD.");
        due.is("the first", x.judge(0, 0), 1);
        due.is("the last, HABIT", x.judge(2, 0), 3);
        due.is("the last, SLOW", x.judge(2, 1), 9);
        due.is("JUDGE 3", x.judge(3, 0), BAD);
        due.is("JUDGE -1", x.judge(-1, 0), BAD);
        due.is("2", x.judge(0, 2), BAD);
        due.is("-1", x.judge(0, -1), BAD);

        edges.of(10, "Of a DRAUGHT: 0 MINUTE, 1 STRENGTH. BAD.");
        due.is("the first", x.draught(0, 0), 0);
        due.is("the last, MINUTE", x.draught(1, 0), 20);
        due.is("the last, STRENGTH", x.draught(1, 1), 9);
        due.is("DRAUGHT 2", x.draught(2, 0), BAD);
        due.is("DRAUGHT -1", x.draught(-1, 0), BAD);
        due.is("2", x.draught(0, 2), BAD);
        due.is("-1", x.draught(0, -1), BAD);
        x.calm(1);
        due.is("DRAUGHT 1 is gone", x.draught(1, 0), BAD);

        edges.of(11, "Of a HEARING of THE DOCKET: 0 CASE, 1 JUDGE. BAD.");
        due.is("the first, CASE", x.docket(0, 0), 3);
        due.is("the first, JUDGE", x.docket(0, 1), 2);
        due.is("the last", x.docket(1, 0), 0);
        due.is("HEARING 2", x.docket(2, 0), BAD);
        due.is("HEARING -1", x.docket(-1, 0), BAD);
        due.is("2", x.docket(0, 2), BAD);
        due.is("-1", x.docket(0, -1), BAD);
        x.cut(1);
        due.is("HEARING 1 is gone", x.docket(1, 0), BAD);
    }

    private static void trim(Due due, Edges edges) {
        edges.of(12, "KIND, LENGTH, GUARD (what 0 to 2) of a FLAME becomes v: what it was. "
                + "BAD; STATE: its CASE has a VERDICT.");
        SnuffCourt x = Due.told(CASE.repeat(3) + "case tallow 7 6 bees 5 4;long1;");
        int[] had = {2, 5, 4};
        int[] most = {3, 99, 9};
        for (int what = 0; what < 3; what++) {
            due.is("the most of " + what, x.trim(3, 1, what, most[what]), had[what]);
            due.is("one above, of " + what, x.trim(3, 1, what, most[what] + 1), BAD);
            due.is("it is the most, of " + what, x.flame(3, 1, what), most[what]);
            due.is("0, of " + what, x.trim(3, 1, what, 0), most[what]);
            due.is("one below, of " + what, x.trim(3, 1, what, -1), BAD);
            due.is("it is 0, of " + what, x.flame(3, 1, what), 0);
        }
        due.is("SIDE 0 stays", x.flame(3, 0, 0) + 100 * x.flame(3, 0, 1) + 10 * x.flame(3, 0, 2), 760);
        due.is("3", x.trim(3, 0, 3, 0), BAD);
        due.is("-1", x.trim(3, 0, -1, 0), BAD);
        due.is("SIDE 2", x.trim(3, 2, 0, 0), BAD);
        due.is("SIDE -1", x.trim(3, -1, 0, 0), BAD);
        due.is("CASE 4", x.trim(4, 0, 0, 0), BAD);
        due.is("CASE -1", x.trim(-1, 0, 0, 0), BAD);
        x.hear(3, 0);
        due.is("a VERDICT", x.trim(3, 0, 1, 50), STATE);
        due.is("a VERDICT, 100", x.trim(3, 0, 1, 100), BAD);
        due.is("LENGTH stays", x.flame(3, 0, 1), 7);
        due.is("another CASE", x.trim(2, 0, 1, 50), 1);
        x.appeal(3);
        due.is("none again", x.trim(3, 0, 1, 50), 7);
    }

    private static void train(Due due, Edges edges) {
        edges.of(13, "HABIT, SLOW (what 0, 1) of a JUDGE becomes v: what it was. BAD.");
        SnuffCourt x = Due.told("long1;first2;bare5;");
        due.is("HABIT 0", x.train(2, 0, 0), 3);
        due.is("HABIT -1", x.train(2, 0, -1), BAD);
        due.is("HABIT 3", x.train(2, 0, 3), 0);
        due.is("HABIT 4", x.train(2, 0, 4), BAD);
        due.is("SLOW 1", x.train(2, 1, 1), 5);
        due.is("SLOW 0", x.train(2, 1, 0), BAD);
        due.is("SLOW 9", x.train(2, 1, 9), 1);
        due.is("SLOW 10", x.train(2, 1, 10), BAD);
        due.is("HABIT then", x.judge(2, 0), 3);
        due.is("SLOW then", x.judge(2, 1), 9);
        due.is("the other", x.judge(1, 1), 2);
        due.is("2", x.train(0, 2, 1), BAD);
        due.is("-1", x.train(0, -1, 1), BAD);
        due.is("JUDGE 3", x.train(3, 0, 1), BAD);
        due.is("JUDGE -1", x.train(-1, 0, 1), BAD);
        due.is("no JUDGES", new SnuffCourt().train(0, 0, 0), BAD);
    }

    private static void draughts(Due due, Edges edges) {
        edges.of(14, "A DRAUGHT more: how many there are. BAD; FULL.");
        SnuffCourt x = new SnuffCourt();
        due.is("the first", x.blow(0, 1), 1);
        due.is("the second", x.blow(20, 9), 2);
        due.is("MINUTE -1", x.blow(-1, 1), BAD);
        due.is("MINUTE 21", x.blow(21, 1), BAD);
        due.is("STRENGTH 0", x.blow(0, 0), BAD);
        due.is("STRENGTH 10", x.blow(0, 10), BAD);
        due.is("the third", x.blow(1, 2), 3);
        due.is("the fourth", x.blow(3, 4), 4);
        due.is("the fifth", x.blow(5, 6), FULL);
        due.is("the fifth, BAD", x.blow(5, 10), BAD);
        due.is("the fourth stays", x.draught(3, 0), 3);

        edges.of(15, "DRAUGHTS are the first n alone: how many there were. BAD (n above that, too).");
        due.is("5", x.calm(5), BAD);
        due.is("-1", x.calm(-1), BAD);
        due.is("4", x.calm(4), 4);
        due.is("2", x.calm(2), 4);
        due.is("3 then", x.calm(3), BAD);
        due.is("the first stays", x.draught(0, 1), 1);
        due.is("the second stays", x.draught(1, 0), 20);
        due.is("0", x.calm(0), 2);
        due.is("0 of 0", x.calm(0), 0);
        due.is("1 of 0", x.calm(1), BAD);
        due.is("the first anew", x.blow(7, 7), 1);
    }

    private static void hearings(Due due, Edges edges) {
        edges.of(16, "A HEARING more on THE DOCKET: how many it has. BAD; FULL.");
        SnuffCourt x = Due.told(CASE.repeat(2) + "long1;first2;");
        due.is("CASE 2", x.plan(2, 0), BAD);
        due.is("CASE -1", x.plan(-1, 0), BAD);
        due.is("JUDGE 2", x.plan(0, 2), BAD);
        due.is("JUDGE -1", x.plan(0, -1), BAD);
        x.hear(0, 0);
        for (int i = 1; i <= 6; i++) {
            due.is("the " + i + ", its CASE may have a VERDICT", x.plan(i % 2, i / 4), i);
        }
        due.is("the seventh", x.plan(0, 0), FULL);
        due.is("the seventh, BAD", x.plan(0, 2), BAD);
        due.is("the sixth stays", x.docket(5, 1), 1);
        due.is("no CASES", Due.told("long1;").plan(0, 0), BAD);
        due.is("no JUDGES", Due.told(CASE).plan(0, 0), BAD);

        edges.of(17, "THE DOCKET has its first n HEARINGS alone: how many it had. BAD (n above that, too).");
        due.is("7", x.cut(7), BAD);
        due.is("-1", x.cut(-1), BAD);
        due.is("6", x.cut(6), 6);
        due.is("2", x.cut(2), 6);
        due.is("3 then", x.cut(3), BAD);
        due.is("the first stays", x.docket(0, 0), 1);
        due.is("the second stays", x.docket(1, 0), 0);
        due.is("0", x.cut(0), 2);
        due.is("0 of 0", x.cut(0), 0);
        due.is("1 of 0", x.cut(1), BAD);
        due.is("the first anew", x.plan(1, 1), 1);
    }
}
