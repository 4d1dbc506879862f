/** Promises 34 to 38: which judge it was. */
final class SeenTest {
    private static final int BAD = SnuffCourt.BAD;
    private static final int NONE = SnuffCourt.NONE;
    // by HABIT, SLOW 2: CASE 0 is 2 1 2 1, CASE 1 is 2 2 1 2, CASE 2 is 3 whatever he does
    private static final String THREE = "case tallow 10 5 wax 10;case wax 9 wax 9;case wax 1 wax 1;first 2;bare 2;";

    private SeenTest() {
    }

    static void run(Due due) {
        seeAndForget(due);
        habits(due);
        slows(due);
        asItIsNow(due);
        ask(due);
    }

    private static void seeAndForget(Due due) {
        due.group("promises 34 and 35");
        SnuffCourt x = Due.told(THREE);
        due.is("VERDICT 0", x.see(0, 0, 0), BAD);
        due.is("VERDICT 4", x.see(0, 0, 4), BAD);
        due.is("no CASE", x.see(3, 0, 1), BAD);
        due.is("no CASE -1", x.see(-1, 0, 1), BAD);
        due.is("no JUDGE", x.see(0, 2, 1), BAD);
        due.is("no JUDGE -1", x.see(0, -1, 1), BAD);
        for (int i = 1; i <= 6; i++) {
            due.is("the " + i, x.see(i % 3, i % 2, 1 + i % 3), i);
        }
        due.is("the seventh", x.see(0, 0, 1), SnuffCourt.FULL);
        due.is("the seventh, no VERDICT", x.see(0, 0, 0), BAD);
        due.is("how many", x.count(0), 6);
        due.is("forget 7", x.forget(7), BAD);
        due.is("forget -1", x.forget(-1), BAD);
        due.is("forget 6", x.forget(6), 6);
        due.is("forget 2", x.forget(2), 6);
        due.is("how many then", x.count(0), 2);
        due.is("forget 3", x.forget(3), BAD);
        due.is("forget 0", x.forget(0), 2);
    }

    private static void habits(Due due) {
        due.group("promise 36");
        SnuffCourt x = Due.told(THREE);
        due.is("nothing SEEN", x.habits(0), 15);
        x.see(0, 0, 2);
        due.is("CASE 0 by 2", x.habits(0), 1 + 4);
        due.is("the other JUDGE", x.habits(1), 15);
        x.see(1, 0, 1);
        due.is("CASE 1 by 1", x.habits(0), 4);
        due.is("the other one can not help", x.habits(1), 0);
        x.forget(1);
        x.see(2, 0, 3);
        due.is("CASE 2 tells nothing", x.habits(0), 1 + 4);
        x.see(2, 1, 1);
        due.is("never so", x.habits(0), 0);
        x.forget(0);
        x.see(0, 1, 1);
        due.is("bare or long", x.habits(1), 2 + 8);
        due.is("the first as he is", x.habits(0), 15);
        due.is("nothing changed", x.judge(1, 0), 3);
        due.is("no JUDGE", x.habits(2), BAD);
        due.is("no JUDGE -1", x.habits(-1), BAD);
    }

    private static void slows(Due due) {
        due.group("promise 37");
        SnuffCourt x = Due.told("case tallow 10 wax 12;first 2;long 3;");
        due.is("nothing SEEN", x.slows(0), 1022);
        x.see(0, 0, 2);
        due.is("first puts it out always", x.slows(0), 1022);
        due.is("the other as he is", x.slows(1), 1022);
        x.forget(0);
        x.see(0, 1, 1);
        due.is("long: until it burns down in MINUTE 4", x.slows(1), 2 + 4 + 8);
        due.is("the other as he is, it holds", x.slows(0), 1022);
        x.train(1, 1, 4);
        due.is("it does not hold", x.slows(0), 0);
        due.is("whatever he is", x.slows(1), 2 + 4 + 8);
        x.trim(0, 1, 1, 9);
        due.is("shorter at first alone", x.slows(1), 4 + 8);
        x.trim(0, 0, 0, 2);
        x.trim(0, 1, 0, 2);
        x.trim(0, 1, 1, 99);
        due.is("9 too", x.slows(1), 1022);
        due.is("nothing changed", x.judge(1, 1), 4);
        due.is("no JUDGE", x.slows(2), BAD);
        due.is("no JUDGE -1", x.slows(-1), BAD);
    }

    private static void asItIsNow(Due due) {
        due.group("promises 36 and 37, as it is when asked");
        SnuffCourt x = Due.told("case tallow 10 wax 12;long 3;");
        x.see(0, 0, 1);
        due.is("as it is", x.habits(0), 2);
        x.trim(0, 0, 1, 99);
        due.is("longer now", x.habits(0), 4);
        x.hear(0, 0);
        due.is("its VERDICT aside, the other burns down", x.habits(0), 15);
        x.blow(0, 1);
        due.is("hung now", x.habits(0), 0);
        x.calm(0);
        x.train(0, 1, 9);
        due.is("so slow now, the other burns down", x.habits(0), 15);
    }

    private static void ask(Due due) {
        due.group("promise 38");
        SnuffCourt x = Due.told(THREE);
        due.is("CASE 0 halves them", x.ask(0, 0), 0);
        due.is("two are left", x.ask(0, 1), 2);
        x.trim(0, 0, 2, 0);
        due.is("alike, the first", x.ask(0, 0), 0);
        due.is("three are left", x.ask(0, 1), 3);
        x.trim(0, 0, 1, 0);
        due.is("CASE 1", x.ask(0, 0), 1);
        due.is("CASE 1, three are left", x.ask(0, 1), 3);
        x.see(1, 0, 2);
        due.is("none divides what is left", x.ask(0, 0), NONE);
        due.is("none, how many", x.ask(0, 1), NONE);
        due.is("another JUDGE", x.ask(1, 0), 1);
        x.see(1, 1, 3);
        due.is("no HABIT is left", x.ask(1, 0), NONE);
        x.forget(0);
        x.see(1, 0, 1);
        due.is("one is left", x.ask(0, 0), NONE);

        SnuffCourt y = Due.told("case wax 1 wax 1;case tallow 10 5 wax 10;case wax 9 5 wax 9;first 2;");
        y.see(1, 0, 2);
        due.is("of first and short", y.ask(0, 0), 2);
        due.is("of first and short, one", y.ask(0, 1), 1);
        y.hear(2, 0);
        due.is("its VERDICT aside", y.ask(0, 0), 2);
        SnuffCourt w = Due.told("case wax 9 5 wax 9 4;long 2;");
        due.is("without a draught", w.ask(0, 1), 2);
        w.blow(1, 5);
        due.is("by a draught", w.ask(0, 1), NONE);
        SnuffCourt z = Due.told(THREE);
        Due.tell(z, "first 2;");
        due.is("CASES that were", z.ask(0, 0), NONE);
        due.is("no CASES", Due.told("long 1;").ask(0, 0), NONE);
        due.is("no JUDGE", y.ask(1, 0), BAD);
        due.is("no JUDGE -1", y.ask(-1, 0), BAD);
        due.is("2", y.ask(0, 2), BAD);
        due.is("-1", y.ask(0, -1), BAD);
    }
}
