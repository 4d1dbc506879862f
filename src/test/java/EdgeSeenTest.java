/** The edges of promises 34 to 39: which judge it was, terms by a seed, sentence by sentence. */
final class EdgeSeenTest {
    private static final int BAD = SnuffCourt.BAD;
    private static final int STATE = SnuffCourt.STATE;
    private static final int NONE = SnuffCourt.NONE;
    // by HABIT, SLOW 2: CASE 0 is 3 whatever he does, CASES 1 and 2 are 2 1 2 1, CASE 3 is 2 2 1 2
    private static final String FOUR = "case wax 1 wax 1;case tallow 10 5 wax 10;case tallow 10 5 wax 10;case wax 9 5 wax 9 5;"
            + "first 2;bare 2;";

    private EdgeSeenTest() {
    }

    static void run(Due due, Edges edges) {
        see(due, edges);
        habits(due, edges);
        slows(due, edges);
        ask(due, edges);
        drift(due, edges);
        driftRefused(due);
    }

    private static void see(Due due, Edges edges) {
        edges.of(34, "SEEN: a CASE, a JUDGE, a VERDICT (1 to 3): how many are. BAD; FULL.");
        SnuffCourt x = Due.told(FOUR);
        due.is("VERDICT 0", x.see(0, 0, 0), BAD);
        due.is("VERDICT 4", x.see(0, 0, 4), BAD);
        due.is("CASE 4", x.see(4, 0, 1), BAD);
        due.is("CASE -1", x.see(-1, 0, 1), BAD);
        due.is("JUDGE 2", x.see(0, 2, 1), BAD);
        due.is("JUDGE -1", x.see(0, -1, 1), BAD);
        due.is("none is", x.count(0), 0);
        due.is("VERDICT 1", x.see(0, 0, 1), 1);
        due.is("VERDICT 3, the last of all", x.see(3, 1, 3), 2);
        x.hear(0, 0);
        for (int i = 3; i <= 6; i++) {
            due.is("the " + i + ", its CASE may have a VERDICT", x.see(0, 0, 3), i);
        }
        due.is("the seventh", x.see(0, 0, 3), SnuffCourt.FULL);
        due.is("the seventh, BAD", x.see(0, 0, 0), BAD);
        due.is("no CASES", Due.told("long1;").see(0, 0, 1), BAD);
        due.is("no JUDGES", Due.told("case wax1wax1;").see(0, 0, 1), BAD);

        edges.of(35, "SEEN are the first n alone: how many there were. BAD (n above that, too).");
        due.is("7", x.forget(7), BAD);
        due.is("-1", x.forget(-1), BAD);
        due.is("6", x.forget(6), 6);
        due.is("1", x.forget(1), 6);
        due.is("2 then", x.forget(2), BAD);
        due.is("the first stays: CASE 0 is never 1", x.habits(0), 0);
        due.is("0", x.forget(0), 1);
        due.is("nothing is SEEN", x.habits(0), 15);
        due.is("0 of 0", x.forget(0), 0);
        due.is("1 of 0", x.forget(1), BAD);
    }

    private static void habits(Due due, Edges edges) {
        edges.of(36, "HABITS (bits) of a JUDGE by which, all else as it is, all is as SEEN. BAD.");
        SnuffCourt x = Due.told(FOUR);
        due.is("nothing SEEN: all", x.habits(0), 15);
        x.see(1, 0, 1);
        due.is("long and bare", x.habits(0), 2 + 8);
        x.see(3, 0, 2);
        due.is("both", x.habits(0), 2 + 8);
        x.see(3, 0, 1);
        due.is("not one", x.habits(0), 0);
        x.forget(0);
        x.see(1, 1, 1);
        due.is("the other is bare, it holds", x.habits(0), 15);
        x.train(1, 0, 0);
        due.is("all else as it is, it does not hold", x.habits(0), 0);
        due.is("were he another one", x.habits(1), 2 + 8);
        due.is("HABIT stays", x.judge(1, 0), 0);
        due.is("JUDGE 2", x.habits(2), BAD);
        due.is("JUDGE -1", x.habits(-1), BAD);
        due.is("no JUDGES", new SnuffCourt().habits(0), BAD);
    }

    private static void slows(Due due, Edges edges) {
        edges.of(37, "How SLOW (1 to 9; bits) a JUDGE may be by which, all else as it is, all is as SEEN. BAD.");
        SnuffCourt x = Due.told("case bees 20 wax 29;case bees 20 wax 22;long5;first1;");
        due.is("nothing SEEN: all", x.slows(0), 1022);
        x.see(0, 0, 2);
        due.is("9 alone", x.slows(0), 1 << 9);
        x.forget(0);
        x.see(1, 0, 1);
        due.is("1 alone", x.slows(0), 1 << 1);
        x.see(0, 0, 2);
        due.is("not one", x.slows(0), 0);
        x.forget(0);
        x.see(1, 0, 2);
        due.is("all but 1", x.slows(0), 1020);
        due.is("SLOW 5, it holds", x.slows(1), 1022);
        x.train(0, 1, 1);
        due.is("all else as it is, it does not hold", x.slows(1), 0);
        due.is("SLOW stays", x.judge(0, 1), 1);
        due.is("JUDGE 2", x.slows(2), BAD);
        due.is("JUDGE -1", x.slows(-1), BAD);
        due.is("no JUDGES", new SnuffCourt().slows(0), BAD);
    }

    private static void ask(Due due, Edges edges) {
        edges.of(38, "so that of his HABITS fewest are left at the worst (by VERDICT, were it heard now), fewer than now, "
                + "the first (what 0), how many these are (1). BAD; NONE: none.");
        SnuffCourt x = Due.told(FOUR);
        due.is("the first of two alike", x.ask(0, 0), 1);
        due.is("two of four", x.ask(0, 1), 2);
        x.see(1, 0, 2);
        due.is("of first and short, CASE 1 tells nothing", x.ask(0, 0), 3);
        due.is("one of two", x.ask(0, 1), 1);
        x.hear(3, 0);
        due.is("its VERDICT aside", x.ask(0, 0), 3);
        x.see(3, 0, 2);
        due.is("one is left, not fewer than now", x.ask(0, 0), NONE);
        due.is("one is left, how many", x.ask(0, 1), NONE);
        x.see(0, 0, 1);
        due.is("none is left", x.ask(0, 0), NONE);
        SnuffCourt w = Due.told("case bees 9 5 bees 8;first1;");
        due.is("CASE 0", w.ask(0, 0), 0);
        due.is("CASE 0, two of four", w.ask(0, 1), 2);
        w.trim(0, 0, 2, 0);
        due.is("three are left by 2", w.ask(0, 1), 3);
        w.trim(0, 0, 2, 5);
        w.trim(0, 0, 1, 7);
        due.is("two by 1 and two by 2", w.ask(0, 1), 2);
        w.see(0, 0, 1);
        due.is("all that are left say 1", w.ask(0, 0), NONE);
        w.forget(0);
        w.blow(0, 1);
        due.is("a draught: SIDE 0 wins whatever he is", w.ask(0, 0), NONE);
        w.see(0, 0, 1);
        due.is("a draught: all are left", w.habits(0), 15);
        SnuffCourt y = Due.told("case wax 1 wax 1;case wax 0 wax 9;long1;");
        due.is("no CASE tells a thing", y.ask(0, 0), NONE);
        due.is("no CASES", Due.told("long1;").ask(0, 1), NONE);
        due.is("2", x.ask(0, 2), BAD);
        due.is("-1", x.ask(0, -1), BAD);
        due.is("JUDGE 2", x.ask(2, 0), BAD);
        due.is("JUDGE -1", x.ask(-1, 0), BAD);
        due.is("no JUDGES", new SnuffCourt().ask(0, 0), BAD);
    }

    private static void drift(Due due, Edges edges) {
        edges.of(39, "By itself (as it would be; nothing is changed), n times (1 to 60) by a seed: the seed becomes seed times "
                + "1103515245 and 12345; bits 16 to 30 of it are got: of the CASE got modulo CASES the FLAME of SIDE got by 8 "
                + "(down) modulo 2 has LENGTH got by 16 (down) modulo 20; then it is heard by the JUDGE got by 512 (down) "
                + "modulo JUDGES (VERDICTS aside): how often SIDE 0 wins (what 0), all LENGTHS in the end (1). "
                + "BAD; STATE: there are no CASES or no JUDGES.");
        SnuffCourt x = Due.told("case bees 40 3 wax 50 1;case wax 30 wax 30 4;case tallow 20 2 bees 20 2;"
                + "case bees 9 5 thief 60 6;first2;long1;bare4;draught 1 2;draught 3 5;");
        int[] seeds = {0, 1, -1, Integer.MAX_VALUE, Integer.MIN_VALUE, 12345};
        int[] times = {1, 2, 3, 4, 60};
        int[][] wins = {{0, 0, 1, 1, 27}, {0, 0, 0, 0, 35}, {0, 0, 1, 1, 28}, {0, 0, 1, 1, 28}, {0, 0, 1, 1, 27},
            {1, 2, 2, 2, 29}};
        int[][] lengths = {{219, 170, 172, 140, 47}, {239, 237, 215, 162, 46}, {240, 238, 230, 216, 59},
            {240, 238, 230, 216, 59}, {219, 170, 172, 140, 47}, {208, 173, 141, 131, 46}};
        for (int s = 0; s < seeds.length; s++) {
            for (int i = 0; i < times.length; i++) {
                due.is("seed " + seeds[s] + ", " + times[i] + " times, wins", x.drift(seeds[s], times[i], 0), wins[s][i]);
                due.is("seed " + seeds[s] + ", " + times[i] + " times", x.drift(seeds[s], times[i], 1), lengths[s][i]);
            }
        }
        due.is("LENGTHS stay", x.rule(7), 259);
        due.is("VERDICTS stay", x.rule(4) + x.rule(5) + x.rule(6), 0);
        due.is("no HEARING was", x.suit(2, 2), NONE);
        SnuffCourt z = Due.told("case bees 40 wax 50;long1;");
        due.is("one CASE, one JUDGE: LENGTH 12, SIDE 1 is longer", z.drift(1, 1, 0), 1);
        due.is("one CASE, one JUDGE, LENGTHS", z.drift(1, 1, 1), 59);
        SnuffCourt y = Due.told("case wax 0 wax 0;case wax 0 wax 0;first1;short2;");
        int before = y.drift(7, 60, 0);
        y.hear(0, 0);
        y.hear(1, 0);
        due.is("VERDICTS aside", y.drift(7, 60, 0), before);
        due.is("they stay", y.rule(6), 3);
    }

    private static void driftRefused(Due due) {
        SnuffCourt x = Due.told("case wax 0 wax 0;first1;");
        due.is("0 times", x.drift(1, 0, 0), BAD);
        due.is("-1 times", x.drift(1, -1, 0), BAD);
        due.is("61 times", x.drift(1, 61, 0), BAD);
        due.is("2", x.drift(1, 1, 2), BAD);
        due.is("-1", x.drift(1, 1, -1), BAD);
        due.is("no CASES", Due.told("long1;").drift(1, 1, 0), STATE);
        due.is("no JUDGES", Due.told("case wax1wax1;").drift(1, 60, 1), STATE);
        due.is("neither", new SnuffCourt().drift(1, 1, 0), STATE);
        due.is("neither, BAD", new SnuffCourt().drift(1, 0, 0), BAD);
    }
}
