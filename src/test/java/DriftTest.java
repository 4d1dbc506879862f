/** Promise 39: terms by a seed. */
final class DriftTest {
    private static final int BAD = SnuffCourt.BAD;
    private static final int STATE = SnuffCourt.STATE;

    private DriftTest() {
    }

    static void run(Due due) {
        due.group("promise 39");
        byHand(due);
        nothingChanged(due);
        refused(due);
    }

    /** Of seed 0 the first is 12345, of which bits 16 to 30 are 0: CASE 0, SIDE 0, LENGTH 0, JUDGE 0. */
    private static void byHand(Due due) {
        SnuffCourt x = Due.told("case bees 40 wax 50;case bees 30 wax 30;case bees 20 wax 20;first 2;long 1;");
        due.is("SIDE 0 is out", x.drift(0, 1, 0), 0);
        due.is("all LENGTHS", x.drift(0, 1, 1), 50 + 60 + 40);
        // then -740551042, got 21468: CASE 0, SIDE 1, LENGTH 1 (1341 modulo 20), JUDGE 1 (41 modulo 2); SIDE 0 has 0 yet
        due.is("hung? no, SIDE 0 is out yet", x.drift(0, 2, 0), 0);
        due.is("all LENGTHS of two", x.drift(0, 2, 1), 1 + 60 + 40);
        // of seed 1: 1103527590, got 16838: CASE 2, SIDE 0, LENGTH 12, JUDGE 0: first, in MINUTE 2
        due.is("seed 1", x.drift(1, 1, 0), 0);
        due.is("seed 1, all LENGTHS", x.drift(1, 1, 1), 90 + 60 + 10 + 16);
        // got 5758: CASE 1, SIDE 1, LENGTH 19, JUDGE 1: long, in MINUTE 1, puts SIDE 0 out
        due.is("seed 1, two", x.drift(1, 2, 0), 0);
        due.is("seed 1, two, all LENGTHS", x.drift(1, 2, 1), 90 + 29 + 17 + 26);
        x.train(1, 0, 2);
        due.is("seed 1, two, short", x.drift(1, 2, 0), 1);
        // one CASE, one JUDGE: SIDE 0, LENGTH 0
        SnuffCourt y = Due.told("case bees 40 wax 50;long 1;");
        due.is("one CASE, one JUDGE", y.drift(0, 1, 1), 50);
        // of seed 1 SIDE 0, LENGTH 12: SIDE 1 is the longer one in MINUTE 1
        due.is("one CASE, one JUDGE, won", y.drift(1, 1, 0), 1);
        due.is("one CASE, one JUDGE, LENGTHS", y.drift(1, 1, 1), 11 + 48);
        y.blow(0, 1);
        due.is("hung by a draught", y.drift(1, 1, 0), 0);
        due.is("hung by a draught, LENGTHS", y.drift(1, 1, 1), 12 + 50);
    }

    private static void nothingChanged(Due due) {
        SnuffCourt x = Due.told("case bees 40 wax 50;case bees 30 wax 30;first 2;long 1;draught 1 1;");
        x.hear(1, 0);
        int lengths = x.rule(7);
        for (int n = 1; n <= 60; n++) {
            int wins = x.drift(n * 7919, n, 0);
            due.holds("0 to n", wins >= 0 && wins <= n);
            due.is("again", x.drift(n * 7919, n, 0), wins);
        }
        due.is("LENGTHS", x.rule(7), lengths);
        due.is("VERDICT", x.suit(1, 0), 3);
        due.is("no VERDICT", x.suit(0, 0), 0);
        due.is("no HEARING", x.suit(0, 2), SnuffCourt.NONE);
    }

    private static void refused(Due due) {
        SnuffCourt x = Due.told("case bees 40 wax 50;");
        due.is("no JUDGES", x.drift(1, 1, 0), STATE);
        due.is("no JUDGES, 0 times", x.drift(1, 0, 0), BAD);
        due.is("no CASES", Due.told("long 1;").drift(1, 1, 1), STATE);
        due.is("none at all", new SnuffCourt().drift(1, 1, 2), BAD);
        SnuffCourt y = Due.told("case bees 40 wax 50;long 1;");
        due.is("0 times", y.drift(1, 0, 0), BAD);
        due.is("61 times", y.drift(1, 61, 0), BAD);
        due.holds("60 times", y.drift(Integer.MIN_VALUE, 60, 1) >= 0);
        due.is("2", y.drift(1, 1, 2), BAD);
        due.is("-1", y.drift(1, 1, -1), BAD);
    }
}
