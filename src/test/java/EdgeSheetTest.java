/** The edges of promises 40 to 46 and of what part 2 says of SHEETS, sentence by sentence. */
final class EdgeSheetTest {
    private static final int BAD = SnuffCourt.BAD;
    private static final int STATE = SnuffCourt.STATE;
    private static final int NONE = SnuffCourt.NONE;
    private static final String FOUR = "case wax 9 wax 3;case bees 2 wax 9;case wax 1 wax 1;case wax 5 wax 5;first 2;long 2;";

    private EdgeSheetTest() {
    }

    static void run(Due due, Edges edges) {
        sheets(due, edges);
        images(due, edges);
        sheet(due, edges);
        lay(due, edges);
        readHowMany(due, edges);
        readTorn(due, edges);
        readRefused(due, edges);
        torn(due, edges);
        count(due, edges);
    }

    private static SnuffCourt withSheet(int lane, int... cells) {
        SnuffCourt x = Due.told(FOUR);
        x.sheet(2, lane, cells.length);
        for (int i = 0; i < cells.length; i++) {
            x.lay(2, i, cells[i]);
        }
        return x;
    }

    private static void read(Due due, SnuffCourt x, int[] call, int answer, int torn) {
        String name = "read(" + call[0] + ", " + call[1] + ", " + call[2] + ", " + call[3] + ")";
        due.is(name, x.read(call[0], call[1], call[2], call[3]), answer);
        due.is(name + " torn", x.torn(), torn);
    }

    private static void sheets(Due due, Edges edges) {
        edges.of(Edges.HEARINGS, "SHEETS 0 to 3 are rows of BYTES (lane 0), SHORTS (1), INTS (2), all with a sign, "
                + "with 0 to 40 CELLS, or nothing (at first)");
        SnuffCourt x = new SnuffCourt();
        for (int k = 0; k < 4; k++) {
            due.is("nothing at first, " + k, x.lay(k, 0, 0), -11);
            for (int lane = 0; lane < 3; lane++) {
                due.is("no CELLS", x.sheet(k, lane, 0), 1);
                due.is("not one CELL", x.lay(k, 0, 0), -12);
                due.is("40", x.sheet(k, lane, 40), 1);
                due.is("the last of 40", x.lay(k, 39, 1), 1);
                due.is("not one more", x.lay(k, 40, 1), -12);
            }
        }
        due.is("SHEET 4", x.sheet(4, 0, 1), BAD);
        due.is("lane 3", x.sheet(0, 3, 1), BAD);
        due.is("255 is -1 in BYTES", withSheet(0, 255, 0).read(2, 0, 0, 1), -20);
        due.is("65535 is -1 in SHORTS", withSheet(1, 0, 65535).read(2, 1, 0, 1), -20);

        edges.of(Edges.HEARINGS, "A FAULT is what the machine finds: 1 NULL (nothing), 2 INDEX, 3 CAST (another lane), "
                + "4 SIZE (below 0)");
        SnuffCourt y = withSheet(1, 0, 0);
        read(due, y, new int[] {1, 1, 0, 1}, 0, 1);
        read(due, y, new int[] {2, 1, 1, 1}, 0, 2);
        read(due, y, new int[] {2, 0, 0, 1}, 0, 3);
        due.is("SIZE", y.sheet(2, 1, -1), -14);
    }

    private static void images(Due due, Edges edges) {
        edges.of(40, "IMAGE k (0, 1) is CASES, JUDGES, DRAUGHTS (all of them), THE DOCKET: whether there was one (1, 0). BAD.");
        SnuffCourt x = Due.told("case wax 9 1 wax 3;first2;draught 1 1;draught 2 2;draught 3 3;draught 4 4;docket 0 0;");
        due.is("-1", x.keep(-1), BAD);
        due.is("2", x.keep(2), BAD);
        due.is("there was none", x.keep(0), 0);
        due.is("nor of 1", x.keep(1), 0);
        due.is("there was one", x.keep(0), 1);
        due.is("two IMAGES", x.count(1), 2);
        x.calm(0);
        x.cut(0);
        x.train(0, 1, 9);
        x.hear(0, 0);
        due.is("all LENGTHS", x.back(1), 12);
        due.is("all four DRAUGHTS", x.rule(2), 4);
        due.is("the last DRAUGHT", x.draught(3, 1), 4);
        due.is("THE DOCKET", x.rule(3), 1);
        due.is("SLOW", x.judge(0, 1), 2);
        due.is("VERDICT", x.suit(0, 0), 0);
        due.is("latest HEARING", x.suit(0, 2), NONE);

        edges.of(41, "All is as IMAGE k: all LENGTHS. BAD; STATE: there is none.");
        SnuffCourt y = Due.told("case wax 9 wax 3;first2;");
        due.is("-1", y.back(-1), BAD);
        due.is("2", y.back(2), BAD);
        due.is("none yet, 0", y.back(0), STATE);
        due.is("none yet, 1", y.back(1), STATE);
        y.keep(1);
        due.is("none of 0", y.back(0), STATE);
        y.see(0, 0, 1);
        y.sheet(0, 0, 3);
        y.hear(0, 0);
        due.is("as IMAGE 1", y.back(1), 12);
        due.is("as IMAGE 1 again", y.back(1), 12);
        due.is("SEEN are no part of it", y.count(0), 1);
        due.is("SHEETS are no part of it", y.count(3), 3);
        due.is("without a VERDICT", y.suit(0, 0), 0);
        Due.tell(y, "long#");
        due.is("behind a text with a FAULT", y.back(1), 12);
        y.text();
        due.is("gone by a text", y.back(1), STATE);
        due.is("an empty one", y.keep(1), 0);
        due.is("back to an empty one", y.back(1), 0);
    }

    private static void sheet(Due due, Edges edges) {
        edges.of(42, "A SHEET is a new row of CELLS 0: 1. BAD: also n above 40; -14 (SIZE): n below 0.");
        SnuffCourt x = withSheet(0, 3, 1);
        due.is("41", x.sheet(2, 0, 41), BAD);
        due.is("the most", x.sheet(2, 0, Integer.MAX_VALUE), BAD);
        due.is("-1", x.sheet(2, 0, -1), -14);
        due.is("the least", x.sheet(2, 0, Integer.MIN_VALUE), -14);
        due.is("-1, SHEET 4", x.sheet(4, 0, -1), BAD);
        due.is("-1, SHEET -1", x.sheet(-1, 0, -1), BAD);
        due.is("-1, lane 3", x.sheet(2, 3, -1), BAD);
        due.is("-1, lane -1", x.sheet(2, -1, -1), BAD);
        due.is("what is refused leaves it", x.read(2, 0, 0, 1), 1);
        due.is("what is refused leaves it: CASE 3 by JUDGE 1", x.suit(3, 3), 1);
        SnuffCourt y = withSheet(0, 3, 1);
        due.is("a new one as the old one was", y.sheet(2, 0, 2), 1);
        due.is("of CELLS 0 alone", y.read(2, 0, 0, 1), 1);
        due.is("of CELLS 0 alone: CASE 0 by JUDGE 0", y.suit(0, 3), 0);
        due.is("a new one", x.sheet(2, 0, 40), 1);
        due.is("of CELLS 0", x.read(2, 0, 38, 1), 1);
        due.is("of CELLS 0: CASE 0 by JUDGE 0", x.suit(0, 3), 0);
        due.is("none", x.sheet(2, 0, 0), 1);
        due.is("none then", x.lay(2, 0, 0), -12);
    }

    private static void lay(Due due, Edges edges) {
        edges.of(43, "CELL i of a SHEET becomes v (its lowest bits): 1. BAD: k; -10 less the FAULT: NULL, INDEX.");
        SnuffCourt x = Due.told(FOUR);
        due.is("SHEET 4", x.lay(4, 0, 0), BAD);
        due.is("SHEET -1", x.lay(-1, 0, 0), BAD);
        due.is("NULL", x.lay(0, 0, 0), -11);
        due.is("NULL ahead of INDEX", x.lay(0, -1, 0), -11);
        x.sheet(0, 0, 2);
        due.is("INDEX 2", x.lay(0, 2, 0), -12);
        due.is("INDEX -1", x.lay(0, -1, 0), -12);
        due.is("INDEX, the most", x.lay(0, Integer.MAX_VALUE, 0), -12);
        due.is("INDEX, the least", x.lay(0, Integer.MIN_VALUE, 0), -12);
        int[] fits = {256 + 3, 65536 + 3, 3};
        int[] other = {128 + 3, 256 + 3, 65536 + 3};
        int[] below = {-256 + 3, -65536 + 3, 3};
        for (int lane = 0; lane < 3; lane++) {
            due.is("3 by its lowest bits, lane " + lane, withSheet(lane, fits[lane], 1).read(2, lane, 0, 1), 1);
            due.is("3 by its lowest bits, below 0, lane " + lane, withSheet(lane, below[lane], 1).read(2, lane, 0, 1), 1);
            due.is("not 3, lane " + lane, withSheet(lane, other[lane], 1).read(2, lane, 0, 1), -20);
            due.is("any v, lane " + lane, withSheet(lane, Integer.MIN_VALUE + 3, 1).read(2, lane, 0, 1), lane < 2 ? 1 : -20);
        }
    }

    private static void readHowMany(Due due, Edges edges) {
        edges.of(44, "n (0 to 20) times a CASE, a JUDGE are read of a SHEET taken as of a lane, two CELLS each from CELL f on, "
                + "one behind another as by hear(): how many were heard");
        SnuffCourt z = withSheet(1, 0, 1, 1, 0, 2, 1);
        read(due, z, new int[] {2, 1, 0, 3}, 3, 0);
        for (int c = 0; c < 3; c++) {
            due.is("by their JUDGES, CASE " + c, z.suit(c, 3), c == 1 ? 0 : 1);
        }
        SnuffCourt x = withSheet(1, 9, 3, 1, 0, 0, 9);
        read(due, x, new int[] {2, 1, 1, 2}, 2, 0);
        due.is("CASE 3 by JUDGE 1", x.suit(3, 3), 1);
        due.is("CASE 0 by JUDGE 0", x.suit(0, 3), 0);
        due.is("CASE 0, its VERDICT", x.suit(0, 0), 1);
        due.is("n -1", x.read(2, 1, 1, -1), BAD);
        due.is("n 21", x.read(2, 1, 1, 21), BAD);
        int[] forty = new int[40];
        System.arraycopy(new int[] {0, 0, 1, 1, 2, 0, 3, 1}, 0, forty, 32, 8);
        SnuffCourt y = withSheet(2, forty);
        read(due, y, new int[] {2, 2, 32, 4}, 4, 0);
        due.is("n 20 of 40 CELLS: the first again and again", withSheet(2, forty).read(2, 2, 0, 20), -21);
        due.is("n 20, CELLS up to the last", withSheet(2, forty).read(2, 2, 32, 20), 4);
    }

    private static void readTorn(Due due, Edges edges) {
        edges.of(44, "What the machine refuses: those that were whole ahead were (its FAULT is asked by torn(); "
                + "of n 0: 0, no FAULT, whatever the SHEET is)");
        SnuffCourt x = withSheet(0, 0, 0, 1, 1, 2);
        read(due, x, new int[] {2, 0, 0, 3}, 2, 2);
        due.is("CASE 1 was", x.suit(1, 3), 1);
        due.is("CASE 2 was not", x.suit(2, 2), NONE);
        read(due, x, new int[] {2, 0, 4, 1}, 0, 2);
        read(due, x, new int[] {2, 0, 5, 20}, 0, 2);
        read(due, x, new int[] {2, 0, 0, 0}, 0, 0);
        read(due, x, new int[] {2, 0, -1, 1}, 0, 2);
        read(due, x, new int[] {2, 0, -2, 20}, 0, 2);
        read(due, x, new int[] {2, 1, 0, 0}, 0, 0);
        read(due, x, new int[] {2, 0, Integer.MIN_VALUE, 20}, 0, 2);
        read(due, x, new int[] {3, 0, 0, 0}, 0, 0);
        read(due, x, new int[] {2, 0, Integer.MAX_VALUE, 20}, 0, 2);
        read(due, x, new int[] {2, 0, -1, 0}, 0, 0);
        read(due, x, new int[] {2, 0, Integer.MAX_VALUE - 1, 1}, 0, 2);
        read(due, x, new int[] {2, 1, 0, 1}, 0, 3);
        read(due, x, new int[] {2, 2, 99, 1}, 0, 3);
        read(due, x, new int[] {3, 0, 99, 1}, 0, 1);
        SnuffCourt y = withSheet(1);
        read(due, y, new int[] {2, 1, 0, 1}, 0, 2);
        read(due, y, new int[] {2, 1, 0, 0}, 0, 0);
        SnuffCourt z = withSheet(1, 0);
        read(due, z, new int[] {2, 1, 0, 1}, 0, 2);
        due.is("half a one is not heard", z.suit(0, 2), NONE);
    }

    private static void readRefused(Due due, Edges edges) {
        edges.of(44, "BAD: k, lane, n; -20 less i (0 on): the i-th, whole, is refused by hear() (in whichever way): "
                + "then none was; the first met.");
        SnuffCourt x = withSheet(0, 0, 0, 1, 0, 0, 1, 4, 0, 2);
        due.is("SHEET 4", x.read(4, 0, 0, 1), BAD);
        due.is("SHEET -1, n 0", x.read(-1, 0, 0, 0), BAD);
        due.is("lane 3", x.read(2, 3, 0, 1), BAD);
        due.is("lane -1, n 0", x.read(2, -1, 0, 0), BAD);
        due.is("n 21 of nothing", x.read(3, 0, 0, 21), BAD);
        due.is("CASE 0 again", x.read(2, 0, 0, 3), -22);
        due.is("CASE 0 again ahead of CASE 4 and of INDEX", x.read(2, 0, 0, 20), -22);
        due.is("CASE 4 ahead of INDEX", x.read(2, 0, 2, 20), -22);
        due.is("CASE 4 at once", x.read(2, 0, 6, 2), -20);
        due.is("then none was", x.rule(4) + x.rule(5) + x.rule(6), 0);
        due.is("then none was, LENGTHS", x.rule(7), 35);
        due.is("no CASE -1", withSheet(0, -1, 0).read(2, 0, 0, 1), -20);
        due.is("no JUDGE 2", withSheet(0, 0, 0, 1, 2).read(2, 0, 0, 2), -21);
        due.is("no JUDGE -1", withSheet(0, 0, 0, 1, -1).read(2, 0, 0, 2), -21);
        SnuffCourt y = withSheet(2, 0, 0, 1, 0, 2, 0, 3, 0, 3, 0);
        due.is("the fifth", y.read(2, 2, 0, 5), -24);
        due.is("four are heard", y.read(2, 2, 0, 4), 4);
        due.is("each has a VERDICT", y.read(2, 2, 6, 1), -20);
        y.appeal(3);
        due.is("not any more", y.read(2, 2, 6, 1), 1);
        due.is("n 0 is not refused", y.read(2, 2, 6, 0), 0);
        SnuffCourt z = withSheet(0, 0, 0);
        Due.tell(z, "case wax1wax1;");
        due.is("no JUDGES", z.read(2, 0, 0, 1), -20);
    }

    private static void torn(Due due, Edges edges) {
        edges.of(45, "The FAULT of the latest read() that answered 0 or more; 0 (one that is refused leaves it).");
        SnuffCourt x = withSheet(0, 0, 0, 1, 0);
        due.is("none was", x.torn(), 0);
        due.is("NULL", x.read(0, 0, 0, 1) * 10 + x.torn(), 1);
        due.is("refused, n", x.read(2, 0, 0, -1), BAD);
        due.is("left", x.torn(), 1);
        due.is("refused, k", x.read(4, 0, 0, 0), BAD);
        due.is("left again", x.torn(), 1);
        x.lay(2, 2, 9);
        due.is("refused by hear()", x.read(2, 0, 0, 2), -21);
        due.is("left then", x.torn(), 1);
        x.lay(0, 0, 0);
        x.lay(2, 9, 0);
        x.sheet(0, 0, -1);
        due.is("lay(), sheet() leave it", x.torn(), 1);
        x.text();
        due.is("a text leaves it", x.torn(), 1);
        due.is("n 0", x.read(2, 0, 0, 0) + x.torn(), 0);
    }

    private static void count(Due due, Edges edges) {
        edges.of(46, "0 SEEN, 1 IMAGES, 2 bytes on THE TAPE, 3 CELLS of SHEET 0 (NONE: nothing), 4 all GUARDS, "
                + "5 CASES that are APPEALED. BAD.");
        SnuffCourt x = new SnuffCourt();
        int[] first = {0, 0, 0, NONE, 0, 0};
        for (int what = 0; what < 6; what++) {
            due.is("at first " + what, x.count(what), first[what]);
        }
        x.keep(1);
        due.is("IMAGE 1 alone", x.count(1), 1);
        Due.tell(x, "case wax 1 9 wax 1 9;".repeat(4) + "long1;");
        x.keep(0);
        due.is("IMAGE 0 alone", x.count(1), 1);
        for (int i = 0; i < 7; i++) {
            x.see(0, 0, 1);
        }
        x.keep(0);
        x.keep(1);
        for (int i = 0; i < 161; i++) {
            x.feed(' ');
        }
        x.sheet(0, 0, 40);
        for (int c = 0; c < 4; c++) {
            x.hear(c, 0);
            x.appeal(c);
        }
        int[] most = {6, 2, 160, 40, 72, 4};
        for (int what = 0; what < 6; what++) {
            due.is("the most " + what, x.count(what), most[what]);
        }
        x.sheet(0, 0, 0);
        due.is("no CELLS", x.count(3), 0);
        x.hear(0, 0);
        due.is("APPEALED still", x.count(5), 4);
        x.back(0);
        due.is("none is by an IMAGE", x.count(5), 0);
        due.is("6", x.count(6), BAD);
        due.is("-1", x.count(-1), BAD);
    }
}
