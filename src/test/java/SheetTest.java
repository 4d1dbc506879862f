/** Promises 40 to 46: images, sheets, how many. */
final class SheetTest {
    private static final int BAD = SnuffCourt.BAD;
    private static final int STATE = SnuffCourt.STATE;
    private static final int NONE = SnuffCourt.NONE;
    private static final String FOUR = "case wax 9 wax 3;case bees 2 wax 9;case wax 1 wax 1;case wax 5 wax 5;first 2;long 2;";

    private SheetTest() {
    }

    static void run(Due due) {
        images(due);
        sheet(due);
        lay(due);
        lanes(due);
        read(due);
        readRefused(due);
        torn(due);
        count(due);
    }

    private static void images(Due due) {
        due.group("promises 40 and 41");
        SnuffCourt x = Due.told("case wax 9 1 wax 3;first 2;draught 1 1;docket 0 0;");
        due.is("IMAGE 2", x.keep(2), BAD);
        due.is("IMAGE -1", x.keep(-1), BAD);
        due.is("back 2", x.back(2), BAD);
        due.is("back -1", x.back(-1), BAD);
        due.is("none yet", x.back(1), STATE);
        due.is("none was", x.keep(1), 0);
        due.is("the other is none", x.back(0), STATE);
        x.see(0, 0, 1);
        x.hear(0, 0);
        due.is("the other one", x.keep(0), 0);
        x.appeal(0);
        x.trim(0, 0, 0, 3);
        x.trim(0, 0, 2, 7);
        x.trim(0, 1, 1, 80);
        x.train(0, 0, 3);
        x.train(0, 1, 8);
        x.blow(4, 4);
        x.plan(0, 0);
        due.is("back", x.back(1), 12);
        due.is("KIND", x.flame(0, 0, 0), 1);
        due.is("LENGTH", x.flame(0, 1, 1), 3);
        due.is("GUARD", x.flame(0, 0, 2), 1);
        due.is("VERDICT", x.suit(0, 0), 0);
        due.is("APPEALED", x.suit(0, 1), 0);
        due.is("MINUTE", x.suit(0, 2), NONE);
        due.is("JUDGE", x.suit(0, 3), NONE);
        due.is("HABIT", x.judge(0, 0), 0);
        due.is("SLOW", x.judge(0, 1), 2);
        due.is("DRAUGHTS", x.rule(2), 1);
        due.is("HEARINGS", x.rule(3), 1);
        due.is("SEEN stay", x.count(0), 1);
        due.is("back to the other", x.back(0), 7 + 1);
        due.is("its VERDICT", x.suit(0, 0), 1);
        due.is("its MINUTE", x.suit(0, 2), 1);
        due.is("its JUDGE", x.suit(0, 3), 0);
        x.appeal(0);
        due.is("it stays", x.back(0), 8);
        due.is("its VERDICT again", x.suit(0, 0), 1);
        x.calm(0);
        x.cut(0);
        due.is("there was one", x.keep(1), 1);
        x.blow(5, 5);
        due.is("the new one", x.back(1), 8);
        due.is("its DRAUGHTS", x.rule(2), 0);
        due.is("its HEARINGS", x.rule(3), 0);
        x.back(0);
        due.is("draughts come back", x.draught(0, 1), 1);
        due.is("hearings come back", x.docket(0, 0), 0);
        SnuffCourt y = new SnuffCourt();
        due.is("of nothing", y.keep(0), 0);
        due.is("back to nothing", y.back(0), 0);
    }

    private static void sheet(Due due) {
        due.group("promise 42");
        SnuffCourt x = new SnuffCourt();
        due.is("BYTES", x.sheet(0, 0, 40), 1);
        due.is("CELLS", x.count(3), 40);
        due.is("INTS", x.sheet(0, 2, 0), 1);
        due.is("none", x.count(3), 0);
        due.is("41", x.sheet(0, 0, 41), BAD);
        due.is("SIZE", x.sheet(0, 0, -1), -14);
        due.is("SIZE, the least", x.sheet(3, 1, Integer.MIN_VALUE), -14);
        due.is("the most", x.sheet(0, 0, Integer.MAX_VALUE), BAD);
        due.is("lane 3", x.sheet(0, 3, 1), BAD);
        due.is("lane -1", x.sheet(0, -1, 1), BAD);
        due.is("lane 3, SIZE", x.sheet(0, 3, -1), BAD);
        due.is("SHEET 4", x.sheet(4, 0, 1), BAD);
        due.is("SHEET -1", x.sheet(-1, 0, -1), BAD);
        due.is("stays", x.count(3), 0);
        due.is("SHEET 3 has nothing", x.lay(3, 0, 0), -11);
    }

    private static void lay(Due due) {
        due.group("promise 43");
        SnuffCourt x = Due.told(FOUR);
        due.is("NULL", x.lay(1, 0, 0), -11);
        due.is("NULL, no CELL", x.lay(1, -1, 0), -11);
        x.sheet(1, 0, 4);
        due.is("the first", x.lay(1, 0, 3), 1);
        due.is("the last", x.lay(1, 3, 1), 1);
        due.is("INDEX", x.lay(1, 4, 0), -12);
        due.is("INDEX -1", x.lay(1, -1, 0), -12);
        due.is("INDEX, the most", x.lay(1, Integer.MAX_VALUE, 0), -12);
        due.is("SHEET 4", x.lay(4, 0, 0), BAD);
        due.is("SHEET -1", x.lay(-1, 0, 0), BAD);
        due.is("read", x.read(1, 0, 0, 2), 2);
        due.is("CASE 3", x.suit(3, 3), 0);
        due.is("CASE 0", x.suit(0, 3), 1);
        x.sheet(1, 0, 2);
        due.is("INDEX of a shorter one", x.lay(1, 2, 0), -12);
        due.is("a new row has 0 alone", x.read(1, 0, 0, 1), -20);
        SnuffCourt y = Due.told(FOUR);
        y.sheet(1, 2, 4);
        y.lay(1, 0, 1);
        y.lay(1, 1, 1);
        y.lay(1, 3, 7);
        y.sheet(1, 2, 4);
        due.is("a new row", y.read(1, 2, 0, 1), 1);
        due.is("CASE 0 by JUDGE 0", y.suit(0, 3), 0);
        y.lay(1, 0, 3);
        y.sheet(0, 2, 40);
        due.is("the row behind a long one stays", y.read(1, 2, 0, 1), 1);
        due.is("CASE 3 by JUDGE 0", y.suit(3, 3), 0);
        due.is("the last row, all of it", y.sheet(3, 2, 40), 1);
        due.is("the last row, its last", y.lay(3, 39, 1), 1);
        due.is("no CELL behind it", y.lay(3, 40, 1), -12);
        due.is("a new row, its last", y.lay(1, 2, 2), 1);
        due.is("CASE 2 by JUDGE 0", y.read(1, 2, 2, 1), 1);
        due.is("CASE 2", y.suit(2, 3), 0);
        x.sheet(2, 2, 0);
        due.is("no CELLS", x.lay(2, 0, 0), -12);
    }

    /** A value's lowest bits: 256 and 65536 are 0 in BYTES, 65536 in SHORTS, and 128 is below 0 in BYTES. */
    private static void lanes(Due due) {
        due.group("promise 43, lowest bits");
        int[] values = {256 + 1, 65536 + 1, -255, -65535, 1, 128 + 1, 32768 + 1, (1 << 24) + 1};
        boolean[][] isOne = {
            {true, true, true, true, true, false, true, true},
            {false, true, false, true, true, false, false, true},
            {false, false, false, false, true, false, false, false}};
        for (int lane = 0; lane < 3; lane++) {
            for (int i = 0; i < values.length; i++) {
                SnuffCourt x = Due.told(FOUR);
                x.sheet(0, lane, 2);
                x.lay(0, 0, values[i]);
                due.is(values[i] + " in lane " + lane, x.read(0, lane, 0, 1), isOne[lane][i] ? 1 : -20);
                due.is(values[i] + " in lane " + lane + ", heard", x.suit(1, 3), isOne[lane][i] ? 0 : NONE);
            }
        }
    }

    private static SnuffCourt withSheet(int lane, int... cells) {
        SnuffCourt x = Due.told(FOUR);
        x.sheet(2, lane, cells.length);
        for (int i = 0; i < cells.length; i++) {
            x.lay(2, i, cells[i]);
        }
        return x;
    }

    private static void read(Due due) {
        due.group("promise 44");
        SnuffCourt x = withSheet(1, 9, 3, 1, 0, 0, 1, 1, 9);
        due.is("from 1 on", x.read(2, 1, 1, 3), 3);
        due.is("no FAULT", x.torn(), 0);
        due.is("CASE 3", x.suit(3, 3), 1);
        due.is("CASE 0", x.suit(0, 3), 0);
        due.is("CASE 1", x.suit(1, 3), 1);
        due.is("CASE 2", x.suit(2, 3), NONE);
        due.is("VERDICT 0", x.suit(0, 0), 1);
        due.is("LENGTHS", x.flame(0, 1, 1), 0);
        SnuffCourt y = withSheet(0, 0, 0, 1, 0, 2);
        due.is("half a pair", y.read(2, 0, 0, 3), 2);
        due.is("INDEX", y.torn(), 2);
        due.is("whole ahead", y.suit(1, 3), 0);
        due.is("not whole", y.suit(2, 3), NONE);
        SnuffCourt z = withSheet(2, 0, 0, 1, 0);
        due.is("none behind", z.read(2, 2, 2, 20), 1);
        due.is("none behind, INDEX", z.torn(), 2);
        due.is("at the end", z.read(2, 2, 4, 1), 0);
        due.is("at the last", z.read(2, 2, 3, 1), 0);
        due.is("below 0", z.read(2, 2, -1, 1), 0);
        due.is("the least", z.read(2, 2, Integer.MIN_VALUE, 20), 0);
        due.is("the most", z.read(2, 2, Integer.MAX_VALUE, 20), 0);
        due.is("still", z.torn(), 2);
        SnuffCourt w = withSheet(2);
        due.is("no CELLS", w.read(2, 2, 0, 1), 0);
        due.is("no CELLS, INDEX", w.torn(), 2);
        due.is("no CELLS, another lane", w.read(2, 1, 0, 1), 0);
        due.is("no CELLS, CAST", w.torn(), 3);
    }

    private static void readRefused(Due due) {
        due.group("promise 44, refused");
        SnuffCourt x = withSheet(0, 0, 0, 1, 0, 0, 1, 4, 0, 2, 0);
        due.is("CASE 0 again", x.read(2, 0, 0, 3), -22);
        due.is("none was", x.suit(0, 3) + x.suit(1, 3), NONE + NONE);
        due.is("no CASE 4", x.read(2, 0, 2, 4), -22);
        due.is("the first met", x.read(2, 0, 0, 20), -22);
        due.is("none was, VERDICTS", x.rule(4) + x.rule(5) + x.rule(6), 0);
        due.is("refused at once", x.read(2, 0, 6, 1), -20);
        due.is("the last is fine", x.read(2, 0, 8, 2), 1);
        due.is("INDEX behind it", x.torn(), 2);
        due.is("heard ahead", x.read(2, 0, 8, 1), -20);
        due.is("one is refused, INDEX behind it", x.read(2, 0, 6, 9), -20);
        due.is("no JUDGE 2", withSheet(0, 0, 1, 1, 2).read(2, 0, 0, 2), -21);
        due.is("no JUDGE -1", withSheet(0, 0, 1, 1, -1).read(2, 0, 0, 2), -21);
        due.is("no CASE -1", withSheet(0, -1, 0).read(2, 0, 0, 1), -20);
        SnuffCourt y = withSheet(0, 0, 0, 1, 0);
        due.is("SHEET 4", y.read(4, 0, 0, 0), BAD);
        due.is("SHEET -1", y.read(-1, 0, 0, 1), BAD);
        due.is("lane 3", y.read(2, 3, 0, 0), BAD);
        due.is("lane -1", y.read(2, -1, 0, 1), BAD);
        due.is("21", y.read(2, 0, 0, 21), BAD);
        due.is("-1", y.read(2, 0, 0, -1), BAD);
        due.is("BAD ahead of NULL", y.read(3, 3, 0, 1), BAD);
        due.is("none was heard", y.suit(0, 0), 0);
        SnuffCourt z = withSheet(0, 0, 0);
        z.hear(0, 0);
        z.appeal(0);
        due.is("appealed", z.read(2, 0, 0, 1), 1);
        SnuffCourt w = withSheet(2, new int[40]);
        due.is("twenty of CASE 0", w.read(2, 2, 0, 20), -21);
    }

    private static void torn(Due due) {
        due.group("promise 45");
        SnuffCourt x = withSheet(0, 0, 0, 1, 0);
        due.is("NULL", x.read(3, 0, 0, 1), 0);
        due.is("1", x.torn(), 1);
        due.is("of n 0", x.read(3, 0, 0, 0), 0);
        due.is("0", x.torn(), 0);
        due.is("CAST", x.read(2, 1, 0, 1), 0);
        due.is("3", x.torn(), 3);
        due.is("BAD leaves it", x.read(2, 0, 0, 21), BAD);
        due.is("3 still", x.torn(), 3);
        due.is("taken", x.read(2, 0, 0, 2), 2);
        due.is("0 then", x.torn(), 0);
        due.is("INDEX", x.read(2, 0, 9, 2), 0);
        due.is("2", x.torn(), 2);
        due.is("refused leaves it", x.read(2, 0, 0, 2), -20);
        due.is("2 still", x.torn(), 2);
        due.is("of n 0, whatever f is", x.read(2, 1, -9, 0), 0);
        due.is("0 again", x.torn(), 0);
        due.is("CAST ahead of INDEX", x.read(2, 2, 99, 1), 0);
        due.is("3 again", x.torn(), 3);
        Due.tell(x, "long 1;");
        due.is("a text leaves it", x.torn(), 3);
        due.is("lay leaves it", x.lay(3, 0, 0), -11);
        due.is("3 as it was", x.torn(), 3);
    }

    private static void count(Due due) {
        due.group("promise 46");
        SnuffCourt x = Due.told("case wax 9 1 wax 3 4;case bees 2 6 wax 9 9;first 2;");
        due.is("GUARDS", x.count(4), 20);
        due.is("SHEET 0", x.count(3), NONE);
        x.sheet(1, 0, 5);
        due.is("SHEET 0 still", x.count(3), NONE);
        x.sheet(0, 1, 7);
        due.is("SHEET 0 then", x.count(3), 7);
        x.see(0, 0, 1);
        x.see(0, 0, 1);
        due.is("SEEN", x.count(0), 2);
        x.keep(1);
        due.is("IMAGES", x.count(1), 1);
        x.keep(1);
        due.is("IMAGES still", x.count(1), 1);
        x.keep(0);
        due.is("IMAGES both", x.count(1), 2);
        x.feed('x');
        due.is("bytes", x.count(2), 1);
        x.hear(1, 0);
        due.is("none APPEALED", x.count(5), 0);
        x.appeal(1);
        due.is("one APPEALED", x.count(5), 1);
        x.hear(0, 0);
        x.appeal(0);
        due.is("two APPEALED", x.count(5), 2);
        due.is("6", x.count(6), BAD);
        due.is("-1", x.count(-1), BAD);
    }
}
