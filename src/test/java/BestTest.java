/** Promises 23 to 31: what is best for a side. */
final class BestTest {
    private static final int BAD = SnuffCourt.BAD;
    private static final int NONE = SnuffCourt.NONE;
    private static final int[] NO_SIDES = {-1, 2, Integer.MAX_VALUE, Integer.MIN_VALUE};

    private BestTest() {
    }

    static void run(Due due) {
        friends(due);
        wax(due);
        least(due);
        hand(due);
        turn(due);
        sure(due);
        rest(due);
        share(due);
        swap(due);
        wrongNumbers(due);
    }

    private static void friends(Due due) {
        due.group("promise 23");
        SnuffCourt x = Due.told("case tallow 10 wax 10;case wax 1 thief 1;first 2;long 2;short 2;");
        due.is("SIDE 0", x.friends(0, 0), 2);
        due.is("SIDE 1", x.friends(0, 1), 1 + 4);
        due.is("hung, SIDE 0", x.friends(1, 0), 0);
        due.is("hung, SIDE 1", x.friends(1, 1), 0);
        x.hear(0, 0);
        due.is("its VERDICT aside", x.friends(0, 0), 0);
        due.is("its VERDICT aside, SIDE 1", x.friends(0, 1), 7);
        due.is("no JUDGES", Due.told("case wax 1 wax 1;").friends(0, 0), 0);
    }

    private static void wax(Due due) {
        due.group("promise 24");
        SnuffCourt x = Due.told("case tallow 10 wax 10;long 2;first 1;case wax 9 thief 5;");
        due.is("by the KIND it has", x.wax(0, 0, 0), 0);
        due.is("alike then, SIDE 0 is gone to", x.wax(0, 1, 0), 0);
        due.is("by none", x.wax(0, 0, 1), NONE);
        due.is("by any", x.wax(0, 1, 1), 0);
        due.is("the other burns down", x.wax(1, 0, 1), 0);
        due.is("it does not burn down", x.wax(1, 1, 1), 0);
        due.is("by thief alone", Due.told("case wax 14 wax 10;long 2;").wax(0, 0, 0), 3);
        due.is("nothing changed", x.flame(0, 1, 0), 1);
        x.hear(0, 1);
        due.is("its VERDICT aside", x.wax(0, 1, 1), 0);
        due.is("wax outlives", Due.told("case tallow 5 wax 4;long 9;").wax(0, 0, 0), 1);
        due.is("bees outlives", Due.told("case tallow 5 bees 4;long 9;").wax(0, 0, 0), 2);
    }

    private static void least(Due due) {
        due.group("promise 25");
        SnuffCourt x = Due.told("case tallow 10 wax 10;long 2;short 2;first 2;case wax 9 thief 0;case bees 0 bees 0 5;");
        due.is("long is for the shorter one", x.least(0, 0, 0), 7);
        due.is("long, SIDE 1, alike", x.least(0, 1, 0), 5);
        due.is("short is for the longer one", x.least(0, 0, 1), 12);
        due.is("short, SIDE 1", x.least(0, 1, 1), 9);
        due.is("first, SIDE 0", x.least(0, 0, 2), NONE);
        due.is("first, SIDE 1", x.least(0, 1, 2), 5);
        due.is("the other is out", x.least(1, 0, 2), 1);
        due.is("the other is out at once", x.least(2, 1, 2), 1);
        due.is("nothing changed", x.flame(0, 0, 1), 10);
        SnuffCourt y = Due.told("case bees 99 thief 99;short 9;");
        due.is("all of it", y.least(0, 1, 0), NONE);
        y.trim(0, 0, 1, 53);
        due.is("99 alone", y.least(0, 1, 0), 99);
        y.trim(0, 0, 1, 54);
        due.is("99 alike", y.least(0, 1, 0), NONE);
    }

    private static void hand(Due due) {
        due.group("promise 26");
        SnuffCourt x = Due.told("case wax 9 wax 9 4;bare 2;first 2;draught 1 3;");
        due.is("SIDE 0, bare", x.hand(0, 0, 0), 5);
        due.is("SIDE 1, bare", x.hand(0, 1, 0), 3);
        due.is("SIDE 0, first", x.hand(0, 0, 1), NONE);
        due.is("SIDE 1, first", x.hand(0, 1, 1), 3);
        due.is("nothing changed", x.flame(0, 0, 2), 0);
        x.trim(0, 1, 2, 9);
        due.is("9 is not enough", x.hand(0, 0, 0), NONE);
        x.trim(0, 1, 2, 8);
        due.is("9", x.hand(0, 0, 0), 9);
        x.trim(0, 1, 2, 0);
        due.is("the draught is", x.hand(0, 0, 0), 3);
        due.is("0", Due.told("case wax 9 5 wax 9 7;first 1;").hand(0, 1, 0), 0);
    }

    private static void turn(Due due) {
        due.group("promise 27");
        SnuffCourt x = Due.told("case wax 9 2 wax 9 4;first 3;long 1;draught 1 2;");
        due.is("3 puts SIDE 0 out, as the JUDGE would", x.turn(0, 0, 3), NONE);
        due.is("5 puts both out", x.turn(0, 0, 5), 0);
        due.is("2 puts none out", x.turn(0, 0, 2), NONE);
        due.is("9", x.turn(0, 0, 9), 0);
        SnuffCourt y = Due.told("case wax 9 4 wax 9 2;first 3;draught 1 1;draught 1 1;draught 1 1;draught 1 1;");
        due.is("a fifth draught", y.turn(0, 0, 3), 0);
        due.is("none is there then", y.rule(2), 4);
        due.is("as told", y.draught(3, 1), 1);
        y.trim(0, 1, 2, 0);
        due.is("SIDE 1 is out in MINUTE 1", y.foretell(0, 0, 1), 1);
        due.is("too late for another one", y.turn(0, 0, 4), NONE);
        due.is("both in MINUTE 0", y.turn(0, 0, 5), 0);
        SnuffCourt z = Due.told("case wax 5 1 wax 5 9;first 9;draught 2 1;");
        due.is("hung in MINUTE 3", z.foretell(0, 0, 0), 3);
        due.is("1 puts none out", z.turn(0, 0, 1), NONE);
        due.is("2", z.turn(0, 0, 2), 0);
        SnuffCourt w = Due.told("case wax 9 1 wax 9;first 5;draught 2 2;draught 0 1;");
        due.is("SIDE 1 is out in MINUTE 0", w.foretell(0, 0, 0), 1);
        w.calm(1);
        due.is("both out in MINUTE 2", w.foretell(0, 0, 0), 3);
        due.is("SIDE 1 ahead of it", w.turn(0, 0, 1), 0);
        w.hear(0, 0);
        due.is("its VERDICT aside, LENGTHS as they are", w.turn(0, 0, 1), 0);
        SnuffCourt v = Due.told("case thief 6 9 wax 5 1;first 2;");
        due.is("SIDE 0 burnt down in MINUTE 1", v.turn(0, 0, 2), 0);
        v.trim(0, 0, 1, 99);
        v.trim(0, 0, 2, 2);
        v.blow(0, 1);
        due.is("the last MINUTE alone is no better", v.turn(0, 0, 3), 0);
        lateTurn(due);
    }

    /** Both are as strong; in MINUTE 0 the one draught leaves nothing to turn. */
    private static void lateTurn(Due due) {
        SnuffCourt x = Due.told("case tallow 2 9 wax 9;first 9;");
        due.is("SIDE 0 burns down in MINUTE 1", x.foretell(0, 0, 1), 1);
        due.is("a draught in MINUTE 0", x.turn(0, 0, 1), 0);
        SnuffCourt y = Due.told("case wax 9 wax 9 1;first 2;draught 0 1;");
        due.is("SIDE 0 out in MINUTE 0", y.foretell(0, 0, 1), 0);
        due.is("1 more is nothing more", y.turn(0, 0, 1), NONE);
        due.is("2 hangs it", y.turn(0, 0, 2), 0);
    }

    private static void sure(Due due) {
        due.group("promise 28");
        SnuffCourt x = Due.told("case wax 9 wax 9;first 2;bare 2;draught 1 4;");
        due.is("first, SIDE 0", x.sure(0, 0, 0), NONE);
        due.is("first, SIDE 1", x.sure(0, 1, 0), 4);
        due.is("bare, SIDE 0", x.sure(0, 0, 1), NONE);
        due.is("bare, SIDE 1", x.sure(0, 1, 1), 9);
        due.is("nothing changed", x.count(4), 0);
        x.calm(0);
        due.is("no draught", x.sure(0, 1, 0), 0);
        x.trim(0, 0, 1, 0);
        due.is("the other is out", x.sure(0, 1, 1), 0);
        due.is("it is out", x.sure(0, 0, 1), NONE);
        x.trim(0, 0, 1, 1);
        due.is("the other one burns down", x.sure(0, 1, 1), 0);
        SnuffCourt y = Due.told("case wax 9 tallow 3;long 3;draught 0 7;");
        due.is("it outlives", y.sure(0, 0, 0), 7);
        due.is("it does not", y.sure(0, 1, 0), NONE);
    }

    private static void rest(Due due) {
        due.group("promise 29");
        SnuffCourt x = Due.told("case wax 9 wax 9;first 2;bare 2;draught 1 4;");
        due.is("first: SIDE 1 has 4 or more", x.rest(0, 0, 0), 60);
        due.is("first: 0 and 4", x.rest(0, 0, 1), 4);
        due.is("bare: SIDE 1 has 9", x.rest(0, 1, 0), 10);
        due.is("bare: 0 and 9", x.rest(0, 1, 1), 9);
        due.is("nothing changed", x.count(4), 0);
        x.calm(0);
        due.is("no draught: all", x.rest(0, 0, 0), 100);
        due.is("no draught: the first", x.rest(0, 0, 1), 0);
        SnuffCourt y = Due.told("case tallow 9 tallow 9;long 9;draught 2 5;");
        due.is("both hang or are out", y.rest(0, 0, 0), 25);
        due.is("both have 5 or more", y.rest(0, 0, 1), 55);
        y.hear(0, 0);
        due.is("its VERDICT aside", y.rest(0, 0, 0), 100);
    }

    private static void share(Due due) {
        due.group("promise 30");
        SnuffCourt x = Due.told("case tallow 10 wax 10;case wax 9 wax 9;case wax 0 wax 9;case wax 5 thief 5;first 2;long 2;short 2;");
        due.is("SIDE 0", x.share(0, 0), 3);
        int[] dues0 = {1, 2, 0, 0};
        int[] dues1 = {0, 0, 0, 0};
        for (int c = 0; c < 4; c++) {
            due.is("SIDE 0, JUDGE of " + c, x.share(0, 10 + c), dues0[c]);
            due.is("SIDE 1, JUDGE of " + c, x.share(1, 10 + c), dues1[c]);
        }
        due.is("SIDE 1", x.share(1, 0), 3);
        x.hear(0, 1);
        due.is("one less", x.share(0, 0), 2);
        due.is("it has a VERDICT", x.share(0, 10), NONE);
        due.is("the next", x.share(0, 11), 2);
        due.is("no CASE 4", x.share(0, 14), BAD);
        due.is("1", x.share(0, 1), BAD);
        due.is("9", x.share(0, 9), BAD);
        due.is("-1", x.share(0, -1), BAD);
        due.is("the least", x.share(0, Integer.MIN_VALUE), BAD);
        due.is("the most", x.share(0, Integer.MAX_VALUE), BAD);
        SnuffCourt z = Due.told("case wax 9 wax 9;case wax 9 wax 9;case wax 9 wax 0;first 2;bare 3;");
        due.is("SIDE 0 wins one", z.share(0, 0), 1);
        due.is("SIDE 1 wins two", z.share(1, 0), 2);
        SnuffCourt y = Due.told("case wax 1 wax 2;");
        due.is("no JUDGES", y.share(0, 0), NONE);
        due.is("no JUDGES, CASE 0", y.share(1, 10), NONE);
        due.is("no JUDGES, no CASE 1", y.share(1, 11), BAD);
        due.is("no JUDGES, no SIDE", y.share(2, 0), BAD);
        due.is("no CASES", Due.told("long 1;").share(0, 0), 0);
        due.is("no CASES, CASE 0", Due.told("long 1;").share(0, 10), BAD);
    }

    private static void swap(Due due) {
        due.group("promise 31");
        String cases = "case tallow 10 wax 10;case wax 9 wax 9;case wax 9 wax 9;first 2;long 2;short 2;";
        SnuffCourt x = Due.told(cases + "docket 0 0 1 1 2 0 0 1;");
        due.is("SIDE 0, the first HEARING by long", x.swap(0, 0), 1);
        due.is("SIDE 0, how many", x.swap(0, 1), 1);
        due.is("SIDE 1 has all", x.swap(1, 0), NONE);
        due.is("SIDE 1 has all, how many", x.swap(1, 1), NONE);
        due.is("the docket stays", x.docket(0, 1), 0);
        due.is("the docket stays, its last", x.docket(3, 1), 1);
        SnuffCourt y = Due.told(cases + "docket 0 2 1 1 2 0;");
        due.is("two at once", y.swap(0, 0), 1);
        due.is("two at once, how many", y.swap(0, 1), 2);
        SnuffCourt z = Due.told(cases + "docket 2 0 1 0 0 0 1 1 0 2;");
        due.is("alike, the least", z.swap(0, 0), 4);
        due.is("alike, how many", z.swap(0, 1), 1);
        z.trim(0, 0, 1, 9);
        z.hear(2, 2);
        due.is("with one that is won", z.swap(0, 0), 14);
        due.is("with one that is won, how many", z.swap(0, 1), 2);
        SnuffCourt w = Due.told("case wax 9 5 wax 9;case wax 9 wax 9;first 2;long 1;draught 2 5;docket 0 1 1 0;");
        due.is("draughts come, SIDE 0", w.swap(0, 0), 1);
        due.is("draughts come, SIDE 0, how many", w.swap(0, 1), 1);
        due.is("draughts come, SIDE 1", w.swap(1, 0), NONE);
        w.calm(0);
        due.is("without a draught", w.swap(0, 0), NONE);
        due.is("no docket", Due.told(cases).swap(0, 0), NONE);
        due.is("none at all", new SnuffCourt().swap(0, 0), NONE);
    }

    private static void wrongNumbers(Due due) {
        due.group("promises 23 to 31, wrong numbers");
        SnuffCourt x = Due.told("case tallow 10 wax 10;first 2;");
        for (int side : NO_SIDES) {
            due.is("friends", x.friends(0, side), BAD);
            due.is("wax", x.wax(0, side, 0), BAD);
            due.is("least", x.least(0, side, 0), BAD);
            due.is("hand", x.hand(0, side, 0), BAD);
            due.is("sure", x.sure(0, side, 0), BAD);
            due.is("share", x.share(side, 0), BAD);
            due.is("swap", x.swap(side, 0), BAD);
        }
        for (int no : new int[] {-1, 1, Integer.MAX_VALUE, Integer.MIN_VALUE}) {
            due.is("friends, no CASE", x.friends(no, 0), BAD);
            due.is("wax, no CASE", x.wax(no, 0, 0), BAD);
            due.is("wax, no JUDGE", x.wax(0, 0, no), BAD);
            due.is("least, no CASE", x.least(no, 0, 0), BAD);
            due.is("least, no JUDGE", x.least(0, 0, no), BAD);
            due.is("hand, no CASE", x.hand(no, 0, 0), BAD);
            due.is("hand, no JUDGE", x.hand(0, 0, no), BAD);
            due.is("turn, no CASE", x.turn(no, 0, 1), BAD);
            due.is("turn, no JUDGE", x.turn(0, no, 1), BAD);
            due.is("sure, no CASE", x.sure(no, 0, 0), BAD);
            due.is("sure, no JUDGE", x.sure(0, 0, no), BAD);
            due.is("rest, no CASE", x.rest(no, 0, 0), BAD);
            due.is("rest, no JUDGE", x.rest(0, no, 0), BAD);
        }
        due.is("turn 0", x.turn(0, 0, 0), BAD);
        due.is("turn 10", x.turn(0, 0, 10), BAD);
        due.is("rest 2", x.rest(0, 0, 2), BAD);
        due.is("rest -1", x.rest(0, 0, -1), BAD);
        due.is("swap 2", x.swap(0, 2), BAD);
        due.is("swap -1", x.swap(0, -1), BAD);
    }
}
