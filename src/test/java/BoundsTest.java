import java.lang.reflect.Method;
import java.util.HashMap;
import java.util.Map;

/** Each number of each call: the least and the most that the document tells are taken, one below and one above are not. */
final class BoundsTest {
    private static final int BAD = SnuffCourt.BAD;
    private static final String FLAME = "case wax 9 1 bees 8 2;";
    /**
     * A call and its numbers: from:to, or one of C CASE, S SIDE, J JUDGE, D DRAUGHT, H HEARING, d, h, s how many DRAUGHTS,
     * HEARINGS, SEEN there may be at the most, t bytes, * any.
     */
    private static final String[] CALLS = {"feed 0:127", "end t", "rule 0:7", "flame C S 0:3", "suit C 0:3", "judge J 0:1",
        "draught D 0:1", "docket H 0:1", "trim C S 0:0 0:3", "trim C S 1:1 0:99", "trim C S 2:2 0:9", "train J 0:0 0:3",
        "train J 1:1 1:9", "blow 0:20 1:9", "calm d", "plan C J", "cut h", "hear C J", "appeal C", "foretell C J 0:2",
        "runs 0:4", "ahead C", "friends C S", "wax C S J", "least C S J", "hand C S J", "turn C J 1:9", "sure C S J",
        "rest C J 0:1", "share S 0:0", "swap S 0:1", "luck 0:10 C S J 0:1", "mean 0:10 S 0:1", "see C J 1:3", "forget s",
        "habits J", "slows J", "ask J 0:1", "drift * 1:60 0:1", "keep 0:1", "back 0:1", "sheet 0:3 0:2 0:40", "lay 0:3 * *",
        "read 0:3 0:2 * 0:20", "count 0:5"};
    /** CASES, JUDGES, DRAUGHTS, HEARINGS, SEEN, bytes. */
    private static final int[][] STATES = {{0, 0, 0, 0, 0, 0}, {1, 1, 0, 0, 0, 1}, {2, 1, 1, 2, 3, 9}, {1, 2, 2, 1, 1, 80},
        {4, 3, 4, 6, 6, 160}, {4, 0, 1, 0, 0, 159}, {0, 3, 3, 0, 0, 5}};

    private BoundsTest() {
    }

    static void run(Due due) throws Exception {
        Map<String, Method> methods = new HashMap<>();
        for (Method m : SnuffCourt.class.getMethods()) {
            methods.put(m.getName(), m);
        }
        for (int[] state : STATES) {
            for (boolean heard : new boolean[] {false, true}) {
                for (String call : CALLS) {
                    String[] words = call.split(" ");
                    due.group("bounds, " + call + " of " + java.util.Arrays.toString(state) + (heard ? " heard" : ""));
                    ofCall(due, methods.get(words[0]), bounds(words, state), state, heard);
                }
            }
        }
    }

    private static long[][] bounds(String[] words, int[] state) {
        long[][] bounds = new long[words.length - 1][];
        for (int i = 1; i < words.length; i++) {
            String w = words[i];
            if (w.contains(":")) {
                bounds[i - 1] = new long[] {Long.parseLong(w.split(":")[0]), Long.parseLong(w.split(":")[1])};
                continue;
            }
            switch (w) {
                case "C": bounds[i - 1] = new long[] {0, state[0] - 1}; break;
                case "S": bounds[i - 1] = new long[] {0, 1}; break;
                case "J": bounds[i - 1] = new long[] {0, state[1] - 1}; break;
                case "D": bounds[i - 1] = new long[] {0, state[2] - 1}; break;
                case "H": bounds[i - 1] = new long[] {0, state[3] - 1}; break;
                case "d": bounds[i - 1] = new long[] {0, state[2]}; break;
                case "h": bounds[i - 1] = new long[] {0, state[3]}; break;
                case "s": bounds[i - 1] = new long[] {0, state[4]}; break;
                case "t": bounds[i - 1] = new long[] {0, state[5]}; break;
                default: bounds[i - 1] = new long[] {Integer.MIN_VALUE, Integer.MAX_VALUE}; break;
            }
        }
        return bounds;
    }

    private static SnuffCourt made(int[] state, boolean heard) {
        SnuffCourt x = Due.told(FLAME.repeat(state[0]) + "bare 3;".repeat(state[1]) + "draught 9 1;".repeat(state[2]));
        for (int i = 0; i < state[3]; i++) {
            x.plan(i % state[0], i % state[1]);
        }
        for (int i = 0; i < state[4]; i++) {
            x.see(i % state[0], i % state[1], 2);
        }
        for (int i = 0; i < state[5]; i++) {
            x.feed(' ');
        }
        for (int c = 0; heard && c < state[0]; c++) {
            x.hear(c, 0);
        }
        return x;
    }

    private static long call(Method m, SnuffCourt on, Object[] args) throws Exception {
        return ((Number) m.invoke(on, args)).longValue();
    }

    /** With no number in one place the call is BAD whatever stands in the others. */
    private static void ofCall(Due due, Method m, long[][] bounds, int[] state, boolean heard) throws Exception {
        boolean empty = false;
        Object[] args = new Object[bounds.length];
        for (int i = 0; i < bounds.length; i++) {
            empty |= bounds[i][1] < bounds[i][0];
            args[i] = (int) Math.max(Math.min(bounds[i][1], 1), bounds[i][0]);
        }
        for (int i = 0; i < bounds.length; i++) {
            Object fine = args[i];
            long low = bounds[i][0];
            long high = bounds[i][1];
            for (long v : new long[] {low, high}) {
                args[i] = (int) v;
                long got = call(m, made(state, heard), args);
                due.holds(tell(m, args) + (empty ? " is BAD" : " is not BAD"), got == BAD == empty);
            }
            for (long v : new long[] {low - 1, high + 1, Integer.MIN_VALUE, Integer.MAX_VALUE}) {
                if (v < low && v >= Integer.MIN_VALUE || v > high && v <= Integer.MAX_VALUE) {
                    args[i] = (int) v;
                    boolean isSize = m.getName().equals("sheet") && i == 2 && v < 0;
                    if (!isOtherBound(m, args, i)) {
                        due.is(tell(m, args), call(m, made(state, heard), args), isSize ? -14 : BAD);
                    }
                }
            }
            args[i] = fine;
        }
    }

    /** The rows of trim and train are of one what each: its neighbour is fine, and has bounds of its own. */
    private static boolean isOtherBound(Method m, Object[] args, int place) {
        int what = (Integer) args[place];
        boolean isTrim = m.getName().equals("trim") && place == 2 && what >= 0 && what <= 2;
        return isTrim || m.getName().equals("train") && place == 1 && what >= 0 && what <= 1;
    }

    private static String tell(Method m, Object[] args) {
        return m.getName() + java.util.Arrays.toString(args);
    }
}
