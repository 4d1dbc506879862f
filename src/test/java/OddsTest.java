/** Promises 32 and 33: draughts that come by odds. */
final class OddsTest {
    private static final int BAD = SnuffCourt.BAD;

    private OddsTest() {
    }

    static void run(Due due) {
        luck(due);
        luckOfMany(due);
        mean(due);
        wrongNumbers(due);
    }

    private static void lucky(Due due, SnuffCourt x, int v, int side, long numerator, long denominator) {
        due.is(v + " away, SIDE " + side + ", numerator", x.luck(v, 0, side, 0, 0), numerator);
        due.is(v + " away, SIDE " + side + ", denominator", x.luck(v, 0, side, 0, 1), denominator);
    }

    private static void meant(Due due, SnuffCourt x, int v, int side, long numerator, long denominator) {
        due.is(v + " away, SIDE " + side + ", numerator", x.mean(v, side, 0), numerator);
        due.is(v + " away, SIDE " + side + ", denominator", x.mean(v, side, 1), denominator);
    }

    private static void luck(Due due) {
        due.group("promise 32");
        SnuffCourt x = Due.told("case wax 9 5 wax 9 3;first 3;draught 1 4;");
        lucky(due, x, 0, 0, 1, 1);
        lucky(due, x, 0, 1, 0, 1);
        lucky(due, x, 3, 0, 7, 10);
        lucky(due, x, 3, 1, 3, 10);
        lucky(due, x, 5, 0, 1, 2);
        lucky(due, x, 10, 0, 0, 1);
        lucky(due, x, 10, 1, 1, 1);
        x.hear(0, 0);
        lucky(due, x, 4, 0, 3, 5);
        x.calm(0);
        lucky(due, x, 4, 0, 0, 1);
        lucky(due, x, 4, 1, 1, 1);
        due.is("the draughts stay", x.rule(2), 0);
    }

    private static void luckOfMany(Due due) {
        due.group("promise 32, draughts by themselves");
        SnuffCourt x = Due.told("case wax 9 5 wax 9 3;first 3;draught 1 4;draught 2 4;draught 0 6;draught 4 9;");
        // MINUTE 0 hangs it by 7 of 10; else SIDE 0 wins unless both of 1 and 2 stay away
        lucky(due, x, 3, 0, 273, 1000);
        lucky(due, x, 3, 1, 27, 1000);
        lucky(due, x, 1, 0, 99, 1000);
        lucky(due, x, 1, 1, 1, 1000);
        lucky(due, x, 5, 0, 3, 8);
        lucky(due, x, 2, 0, 24, 125);
        due.is("the draughts stay", x.rule(2), 4);
        SnuffCourt y = Due.told("case wax 9 5 wax 9 3;first 3;draught 1 4;draught 1 4;draught 1 5;draught 1 6;");
        lucky(due, y, 3, 0, 2919, 10000);
        lucky(due, y, 3, 1, 81, 10000);
        lucky(due, y, 9, 1, 6561, 10000);
    }

    private static void mean(Due due) {
        due.group("promise 33");
        SnuffCourt x = Due.told("case wax 9 5 wax 9 3;case wax 9 wax 9 6;case wax 9 9 wax 9 9;"
                + "first 3;long 3;draught 1 4;draught 2 4;docket 0 0 1 0 2 1 0 1;");
        meant(due, x, 3, 0, 91, 100);
        meant(due, x, 3, 1, 209, 100);
        meant(due, x, 0, 0, 1, 1);
        meant(due, x, 10, 0, 0, 1);
        meant(due, x, 10, 1, 3, 1);
        meant(due, x, 5, 0, 3, 4);
        x.hear(2, 0);
        meant(due, x, 5, 1, 9, 4);
        x.cut(0);
        meant(due, x, 5, 1, 1, 1);
        meant(due, x, 5, 0, 0, 1);
        meant(due, new SnuffCourt(), 7, 0, 0, 1);
        due.is("the docket stays as it was", x.rule(3), 0);
    }

    private static void wrongNumbers(Due due) {
        due.group("promises 32 and 33, wrong numbers");
        SnuffCourt x = Due.told("case wax 9 5 wax 9 3;first 3;");
        due.is("luck 11", x.luck(11, 0, 0, 0, 0), BAD);
        due.is("luck -1", x.luck(-1, 0, 0, 0, 0), BAD);
        due.is("luck, no CASE", x.luck(1, 1, 0, 0, 0), BAD);
        due.is("luck, no CASE -1", x.luck(1, -1, 0, 0, 0), BAD);
        due.is("luck, no SIDE", x.luck(1, 0, 2, 0, 0), BAD);
        due.is("luck, no SIDE -1", x.luck(1, 0, -1, 0, 0), BAD);
        due.is("luck, no JUDGE", x.luck(1, 0, 0, 1, 0), BAD);
        due.is("luck, no JUDGE -1", x.luck(1, 0, 0, -1, 0), BAD);
        due.is("luck, 2", x.luck(1, 0, 0, 0, 2), BAD);
        due.is("luck, -1", x.luck(1, 0, 0, 0, -1), BAD);
        due.is("mean 11", x.mean(11, 0, 0), BAD);
        due.is("mean -1", x.mean(-1, 0, 0), BAD);
        due.is("mean, no SIDE", x.mean(1, 2, 0), BAD);
        due.is("mean, no SIDE -1", x.mean(1, -1, 0), BAD);
        due.is("mean, 2", x.mean(1, 0, 2), BAD);
        due.is("mean, -1", x.mean(1, 0, -1), BAD);
    }
}
