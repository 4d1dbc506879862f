/** The edges of promises 23 to 33: what is best for a side, draughts that come, sentence by sentence. */
final class EdgeBestTest {
    private static final int BAD = SnuffCourt.BAD;
    private static final int NONE = SnuffCourt.NONE;

    private EdgeBestTest() {
    }

    static void run(Due due, Edges edges) {
        friends(due, edges);
        wax(due, edges);
        least(due, edges);
        hand(due, edges);
        turn(due, edges);
        sure(due, edges);
        rest(due, edges);
        share(due, edges);
        swap(due, edges);
        luck(due, edges);
        mean(due, edges);
    }

    private static void friends(Due due, Edges edges) {
        edges.of(23, "JUDGES by whom a SIDE wins a CASE, were it heard now (its VERDICT aside; bits). BAD.");
        SnuffCourt x = Due.told("case wax 9 wax 0;case wax 0 wax 0;case bees 9 bees 8;first1;long1;short1;");
        due.is("all", x.friends(0, 0), 7);
        due.is("none", x.friends(0, 1), 0);
        due.is("hung is won by none", x.friends(1, 0) + x.friends(1, 1), 0);
        due.is("the last alone", x.friends(2, 0), 4);
        due.is("the others", x.friends(2, 1), 3);
        x.hear(2, 0);
        due.is("its VERDICT aside", x.friends(2, 0), 4);
        due.is("CASE 3", x.friends(3, 0), BAD);
        due.is("CASE -1", x.friends(-1, 0), BAD);
        due.is("SIDE 2", x.friends(0, 2), BAD);
        due.is("SIDE -1", x.friends(0, -1), BAD);
        due.is("no JUDGES", Due.told("case wax 9 wax 0;").friends(0, 0), 0);
    }

    private static void wax(Due due, Edges edges) {
        edges.of(24, "The first KIND of its FLAME by which a SIDE wins a CASE before a JUDGE, likewise. BAD; NONE: by none.");
        SnuffCourt x = Due.told("case wax 14 wax 10;long2;first2;");
        due.is("the last, by thief alone", x.wax(0, 0, 0), 3);
        due.is("the first of all four", x.wax(0, 1, 1), 0);
        due.is("by none", x.wax(0, 0, 1), NONE);
        due.is("KIND stays", x.flame(0, 0, 0), 1);
        due.is("wax is the first that outlives", Due.told("case thief 5 bees 2;long9;").wax(0, 0, 0), 1);
        x.hear(0, 1);
        due.is("its VERDICT aside, LENGTHS 10 and 6", x.wax(0, 1, 1), 1);
        due.is("CASE 1", x.wax(1, 0, 0), BAD);
        due.is("SIDE 2", x.wax(0, 2, 0), BAD);
        due.is("JUDGE 2", x.wax(0, 0, 2), BAD);
        due.is("below 0", x.wax(-1, 0, 0) + x.wax(0, -1, 0) + x.wax(0, 0, -1), 3 * BAD);
    }

    private static void least(Due due, Edges edges) {
        edges.of(25, "The least LENGTH (0 to 99) of its FLAME by which a SIDE wins, likewise. BAD; NONE: by none.");
        SnuffCourt x = Due.told("case bees 53 thief 7;case wax 9 wax 0;case wax 0 wax 9;short9;first1;");
        due.is("99 alone", x.least(0, 1, 0), 99);
        due.is("0 is out itself", x.least(1, 0, 1), 1);
        due.is("SIDE 1", x.least(2, 1, 1), 1);
        due.is("no LENGTH helps", x.least(0, 0, 1), NONE);
        x.trim(0, 0, 1, 54);
        due.is("100 would be needed", x.least(0, 1, 0), NONE);
        due.is("LENGTH stays", x.flame(0, 1, 1), 7);
        x.hear(1, 0);
        due.is("its VERDICT aside", x.least(1, 0, 0), 1);
        due.is("CASE 3", x.least(3, 0, 0), BAD);
        due.is("SIDE 2", x.least(0, 2, 0), BAD);
        due.is("JUDGE 2", x.least(0, 0, 2), BAD);
        due.is("below 0", x.least(-1, 0, 0) + x.least(0, -1, 0) + x.least(0, 0, -1), 3 * BAD);
    }

    private static void hand(Due due, Edges edges) {
        edges.of(26, "The least GUARD by which a SIDE wins, likewise. BAD; NONE: by none.");
        SnuffCourt x = Due.told("case wax 9 4 wax 9 8;bare2;first2;draught 1 1;");
        due.is("9 alone", x.hand(0, 0, 0), 9);
        due.is("1, for the draught", x.hand(0, 1, 1), 1);
        due.is("no GUARD helps", x.hand(0, 0, 1), NONE);
        x.calm(0);
        due.is("0", x.hand(0, 1, 1), 0);
        x.trim(0, 1, 2, 9);
        due.is("10 would be needed", x.hand(0, 0, 0), NONE);
        due.is("alike is enough for SIDE 1", x.hand(0, 1, 0), 4);
        due.is("GUARD stays", x.flame(0, 1, 2), 9);
        x.hear(0, 1);
        due.is("its VERDICT aside", x.hand(0, 1, 1), 0);
        due.is("CASE 1", x.hand(1, 0, 0), BAD);
        due.is("SIDE 2", x.hand(0, 2, 0), BAD);
        due.is("JUDGE 2", x.hand(0, 0, 2), BAD);
        due.is("below 0", x.hand(-1, 0, 0) + x.hand(0, -1, 0) + x.hand(0, 0, -1), 3 * BAD);
    }

    private static void turn(Due due, Edges edges) {
        edges.of(27, "The first MINUTE (0 to 20) in which one DRAUGHT more (there may be 4 already) of STRENGTH s (1 to 9) "
                + "makes another VERDICT of a CASE before a JUDGE, likewise. BAD; NONE: in none.");
        SnuffCourt x = Due.told("case wax 9 9 wax 9;first3;draught 20 1;draught 20 1;draught 20 1;draught 20 1;");
        due.is("STRENGTH 1, SIDE 1 is out", x.turn(0, 0, 1), 0);
        due.is("STRENGTH 9, SIDE 1 is out", x.turn(0, 0, 9), 0);
        due.is("four as before", x.rule(2), 4);
        due.is("a fifth can not blow for good", x.blow(1, 1), SnuffCourt.FULL);
        x.trim(0, 1, 2, 9);
        due.is("none is out by 9", x.turn(0, 0, 9), NONE);
        x.trim(0, 0, 2, 8);
        due.is("SIDE 0 is out by 9, as by the JUDGE", x.turn(0, 0, 9), NONE);
        x.trim(0, 1, 2, 8);
        due.is("both are out by 9", x.turn(0, 0, 9), 0);
        due.is("none is out by 8", x.turn(0, 0, 8), NONE);
        SnuffCourt y = Due.told("case wax 9 1 wax 9;first3;draught 0 1;");
        due.is("it ENDS in MINUTE 0, 1 more is nothing more", y.turn(0, 0, 1), NONE);
        due.is("it ENDS in MINUTE 0, 2 hangs it", y.turn(0, 0, 2), 0);
        y.calm(0);
        y.hear(0, 0);
        due.is("its VERDICT aside, LENGTHS 3 and 3", y.turn(0, 0, 1), 0);
        due.is("0", x.turn(0, 0, 0), BAD);
        due.is("10", x.turn(0, 0, 10), BAD);
        due.is("CASE 1", x.turn(1, 0, 1), BAD);
        due.is("JUDGE 1", x.turn(0, 1, 1), BAD);
        due.is("below 0", x.turn(-1, 0, 1) + x.turn(0, -1, 1) + x.turn(0, 0, -1), 3 * BAD);
    }

    private static void sure(Due due, Edges edges) {
        edges.of(28, "A GUARD (0 to 9) of a SIDE by which it wins before a JUDGE whatever GUARD the other SIDE has, likewise, "
                + "the least. BAD; NONE: there is none.");
        SnuffCourt x = Due.told("case wax 9 3 wax 0 3;case wax 9 wax 9;first1;bare1;draught 0 9;");
        due.is("9, the other is out", x.sure(0, 0, 0), 9);
        due.is("it is out itself", x.sure(0, 1, 0), NONE);
        due.is("9, SIDE 1, first", x.sure(1, 1, 0), 9);
        due.is("9, SIDE 1, bare", x.sure(1, 1, 1), 9);
        due.is("9 hangs on the other's, SIDE 0, bare", x.sure(1, 0, 1), NONE);
        x.calm(0);
        due.is("0, no draught", x.sure(0, 0, 0), 0);
        due.is("0, SIDE 1, first", x.sure(1, 1, 0), 0);
        due.is("9, SIDE 1, bare, alike then", x.sure(1, 1, 1), 9);
        x.blow(0, 1);
        due.is("1", x.sure(0, 0, 0), 1);
        due.is("GUARDS stay", x.count(4), 6);
        x.hear(0, 0);
        due.is("its VERDICT aside", x.sure(0, 0, 1), 1);
        due.is("CASE 2", x.sure(2, 0, 0), BAD);
        due.is("SIDE 2", x.sure(0, 2, 0), BAD);
        due.is("JUDGE 2", x.sure(0, 0, 2), BAD);
        due.is("below 0", x.sure(-1, 0, 0) + x.sure(0, -1, 0) + x.sure(0, 0, -1), 3 * BAD);
    }

    private static void rest(Due due, Edges edges) {
        edges.of(29, "GUARDS (a, b) of both SIDES of which neither SIDE alone would do better by another one "
                + "(0 to 9; won, hung, lost), before a JUDGE, likewise: how many pairs (what 0), "
                + "the first (1: 10 times a and b; NONE). BAD.");
        SnuffCourt x = Due.told("case wax 9 wax 9;case wax 2 wax 2;case wax 9 wax 0;case wax 0 wax 9;first1;bare1;");
        due.is("first: all", x.rest(0, 0, 0), 100);
        due.is("first: 0 and 0", x.rest(0, 0, 1), 0);
        due.is("bare: SIDE 1 has 9", x.rest(0, 1, 0), 10);
        due.is("bare: 0 and 9", x.rest(0, 1, 1), 9);
        x.blow(0, 9);
        due.is("both burn down: 9 and 9 alone", x.rest(1, 0, 0), 1);
        due.is("both burn down: 9 and 9", x.rest(1, 0, 1), 99);
        x.calm(0);
        x.blow(0, 4);
        due.is("hung is better than lost", x.rest(1, 0, 0), 36);
        due.is("hung is better than lost, the first", x.rest(1, 0, 1), 44);
        due.is("SIDE 1 is out: SIDE 0 has 4 or more", x.rest(2, 0, 0), 60);
        due.is("SIDE 1 is out: 4 and 0", x.rest(2, 0, 1), 40);
        due.is("SIDE 0 is out: SIDE 1 has 4 or more", x.rest(3, 0, 0), 60);
        due.is("SIDE 0 is out: 0 and 4", x.rest(3, 0, 1), 4);
        due.is("GUARDS stay", x.count(4), 0);
        x.hear(2, 0);
        due.is("its VERDICT aside", x.rest(2, 1, 1), 40);
        due.is("2", x.rest(0, 0, 2), BAD);
        due.is("-1", x.rest(0, 0, -1), BAD);
        due.is("CASE 4", x.rest(4, 0, 0), BAD);
        due.is("JUDGE 2", x.rest(0, 2, 0), BAD);
        due.is("below 0", x.rest(-1, 0, 0) + x.rest(0, -1, 0), 2 * BAD);
    }

    private static void share(Due due, Edges edges) {
        edges.of(30, "JUDGES for all CASES without VERDICT, one for each (one may have several), so that a SIDE wins most of "
                + "them, of several the first by CASES: how many (what 0); 10 and c: the JUDGE of a CASE "
                + "(NONE: it has a VERDICT). BAD; NONE: there are no JUDGES.");
        SnuffCourt x = Due.told("case bees 9 bees 8;case bees 8 bees 9;case bees 9 bees 8;case wax 0 wax 9;first1;long1;short1;");
        int[] judges = {2, 1, 2, 0};
        due.is("three of four", x.share(0, 0), 3);
        due.is("SIDE 1 has all", x.share(1, 0), 4);
        for (int c = 0; c < 4; c++) {
            due.is("one has several, none helps the last: CASE " + c, x.share(0, 10 + c), judges[c]);
            due.is("the first of several: CASE " + c, x.share(1, 10 + c), 0);
        }
        x.hear(0, 0);
        due.is("it has a VERDICT", x.share(0, 10), NONE);
        due.is("the others do not", x.share(0, 11), 1);
        due.is("two of three", x.share(0, 0), 2);
        for (int c = 1; c < 4; c++) {
            x.hear(c, 0);
        }
        due.is("all have one", x.share(0, 0), 0);
        due.is("all have one, CASE 3", x.share(0, 13), NONE);
        for (int what : new int[] {Integer.MIN_VALUE, Integer.MIN_VALUE + 9, -1, 1, 9, 14, Integer.MAX_VALUE}) {
            due.is("what " + what, x.share(0, what), BAD);
        }
        due.is("SIDE 2", x.share(2, 0), BAD);
        due.is("SIDE -1", x.share(-1, 0), BAD);
        SnuffCourt y = Due.told("case wax 9 wax 0;");
        due.is("no JUDGES", y.share(0, 0), NONE);
        due.is("no JUDGES, CASE 0", y.share(0, 10), NONE);
        due.is("no JUDGES, CASE 1", y.share(0, 11), BAD);
        due.is("no CASES, no JUDGES", new SnuffCourt().share(1, 0), NONE);
        due.is("no CASES", Due.told("long1;").share(1, 0), 0);
    }

    private static void swap(Due due, Edges edges) {
        edges.of(31, "so that a SIDE has won most then, more than as it is: 10 times the lesser place (from 0 on) and the "
                + "greater, of several the least (what 0), how many it has won then (1). BAD; NONE: by none.");
        String cases = "case wax 0 wax 9;case bees 8 bees 9;case bees 9 bees 8;case bees 9 bees 8;first1;long1;short1;";
        SnuffCourt x = Due.told(cases + "docket 0 0 0 0 0 1 0 0 2 0 0 2;");
        due.is("the last two of six", x.swap(0, 0), 45);
        due.is("the last two of six, how many", x.swap(0, 1), 1);
        due.is("the docket stays", x.docket(4, 1) + 10 * x.docket(5, 1), 20);
        due.is("SIDE 1 has all already", x.swap(1, 0), NONE);
        due.is("SIDE 1 has all already, how many", x.swap(1, 1), NONE);
        x.cut(5);
        due.is("the last is cut", x.swap(0, 0), NONE);
        SnuffCourt y = Due.told(cases + "docket 2 0 3 0 0 2;");
        due.is("02 and 12 alike", y.swap(0, 0), 2);
        due.is("02 and 12 alike, how many", y.swap(0, 1), 1);
        SnuffCourt z = Due.told(cases + "docket 2 1 1 2 0 2;");
        due.is("two at once are most", z.swap(0, 0), 1);
        due.is("two at once, how many", z.swap(0, 1), 2);
        z.hear(3, 2);
        due.is("with one that is won ahead", z.swap(0, 1), 3);
        SnuffCourt w = Due.told("case wax 9 5 wax 9;first3;short3;draught 2 3;docket 0 0 0 0;");
        due.is("won by a draught as it is", w.swap(0, 0), NONE);
        SnuffCourt v = Due.told("case wax 9 5 wax 9 5;case wax 9 5 wax 9;first3;first1;draught 2 3;docket 0 0 1 1;");
        due.is("won by a draught then", v.swap(0, 0), 1);
        due.is("won by a draught then, how many", v.swap(0, 1), 1);
        due.is("an empty docket", Due.told(cases).swap(0, 0), NONE);
        due.is("one HEARING alone", Due.told(cases + "docket 2 0;").swap(0, 0), NONE);
        due.is("none at all", new SnuffCourt().swap(0, 1), NONE);
        due.is("2", x.swap(0, 2), BAD);
        due.is("-1", x.swap(0, -1), BAD);
        due.is("SIDE 2", x.swap(2, 0), BAD);
        due.is("SIDE -1", x.swap(-1, 0), BAD);
    }

    private static void lucky(Due due, SnuffCourt x, int v, int side, long numerator, long denominator) {
        due.is(v + " out of ten, SIDE " + side, x.luck(v, 0, side, 0, 0), numerator);
        due.is(v + " out of ten, SIDE " + side + ", denominator", x.luck(v, 0, side, 0, 1), denominator);
    }

    private static void luck(Due due, Edges edges) {
        edges.of(32, "Each DRAUGHT stays away by v out of ten (0 to 10), by itself: that a SIDE wins a CASE before a JUDGE, "
                + "were it heard now: 0, 1. BAD.");
        SnuffCourt x = Due.told("case wax 9 5 wax 9 3;first3;");
        for (int v = 0; v <= 10; v += 5) {
            lucky(due, x, v, 0, 0, 1);
            lucky(due, x, v, 1, 1, 1);
        }
        for (int i = 0; i < 4; i++) {
            x.blow(i, 4);
        }
        lucky(due, x, 0, 0, 1, 1);
        lucky(due, x, 0, 1, 0, 1);
        lucky(due, x, 10, 0, 0, 1);
        lucky(due, x, 10, 1, 1, 1);
        lucky(due, x, 1, 1, 1, 10000);
        lucky(due, x, 9, 1, 6561, 10000);
        lucky(due, x, 9, 0, 3439, 10000);
        lucky(due, x, 5, 0, 15, 16);
        x.hear(0, 0);
        lucky(due, x, 5, 1, 1, 16);
        due.is("DRAUGHTS stay", x.rule(2), 4);
        due.is("-1 out of ten", x.luck(-1, 0, 0, 0, 0), BAD);
        due.is("11 out of ten", x.luck(11, 0, 0, 0, 0), BAD);
        due.is("CASE 1", x.luck(5, 1, 0, 0, 0), BAD);
        due.is("SIDE 2", x.luck(5, 0, 2, 0, 0), BAD);
        due.is("JUDGE 1", x.luck(5, 0, 0, 1, 0), BAD);
        due.is("2", x.luck(5, 0, 0, 0, 2), BAD);
        due.is("-1", x.luck(5, 0, 0, 0, -1), BAD);
        due.is("below 0", x.luck(5, -1, 0, 0, 0) + x.luck(5, 0, -1, 0, 0) + x.luck(5, 0, 0, -1, 0), 3 * BAD);
    }

    private static void meant(Due due, SnuffCourt x, int v, int side, long numerator, long denominator) {
        due.is(v + " out of ten, SIDE " + side, x.mean(v, side, 0), numerator);
        due.is(v + " out of ten, SIDE " + side + ", denominator", x.mean(v, side, 1), denominator);
    }

    private static void mean(Due due, Edges edges) {
        edges.of(33, "Likewise, the mean of how many CASES a SIDE has won BY THE DOCKET: 0, 1. BAD.");
        SnuffCourt x = Due.told("case wax 9 5 wax 9 3;case wax 9 5 wax 9 3;first3;draught 1 4;draught 2 4;docket 0 0 1 0;");
        meant(due, x, 0, 0, 2, 1);
        meant(due, x, 0, 1, 0, 1);
        meant(due, x, 10, 0, 0, 1);
        meant(due, x, 10, 1, 2, 1);
        meant(due, x, 5, 0, 3, 2);
        meant(due, x, 9, 0, 19, 50);
        x.blow(20, 9);
        x.blow(20, 9);
        meant(due, x, 9, 1, 81, 50);
        x.cut(0);
        meant(due, x, 9, 1, 0, 1);
        x.hear(0, 0);
        meant(due, x, 9, 0, 1, 1);
        meant(due, new SnuffCourt(), 10, 1, 0, 1);
        due.is("-1 out of ten", x.mean(-1, 0, 0), BAD);
        due.is("11 out of ten", x.mean(11, 0, 0), BAD);
        due.is("SIDE 2", x.mean(5, 2, 0), BAD);
        due.is("SIDE -1", x.mean(5, -1, 0), BAD);
        due.is("2", x.mean(5, 0, 2), BAD);
        due.is("-1", x.mean(5, 0, -1), BAD);
    }
}
