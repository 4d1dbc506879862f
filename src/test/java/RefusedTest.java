import java.lang.reflect.Array;
import java.lang.reflect.Field;
import java.lang.reflect.Method;
import java.lang.reflect.Modifier;
import java.util.ArrayList;
import java.util.Comparator;
import java.util.List;
import java.util.Random;
import java.util.Set;

/** What is refused changes nothing, nor does what only asks; no call throws, whatever its numbers are. */
final class RefusedTest {
    private static final int RUNS = 150;
    private static final int CALLS = 512;
    /** Rows that a question may write on: no answer lasts in them. */
    private static final Set<String> SCRATCH = Set.of("trial", "round", "verdictsByGuards", "driftLengths");
    private static final Set<String> CHANGES = Set.of("feed", "end", "text", "trim", "train", "blow", "calm", "plan", "cut",
        "hear", "appeal", "see", "forget", "keep", "back", "sheet", "lay", "read");
    private static final int[] NUMBERS = {Integer.MIN_VALUE, Integer.MIN_VALUE + 9, -65536, -256, -2, -1, 0, 0, 0, 1, 1, 1, 2, 2,
        3, 3, 4, 5, 6, 7, 9, 10, 11, 13, 14, 20, 21, 40, 41, 60, 61, 99, 100, 127, 128, 255, 256, 65536, Integer.MAX_VALUE - 1,
        Integer.MAX_VALUE};

    private RefusedTest() {
    }

    static void run(Due due) throws Exception {
        List<Method> methods = new ArrayList<>();
        for (Method m : SnuffCourt.class.getDeclaredMethods()) {
            if (Modifier.isPublic(m.getModifiers())) {
                methods.add(m);
            }
        }
        methods.sort(Comparator.comparing(Method::getName));
        int refused = 0;
        for (int seed = 0; seed < RUNS; seed++) {
            due.group("refused, seed " + seed);
            refused += oneRun(due, methods, new Random(seed));
        }
        due.holds("many calls were refused: " + refused, refused > RUNS * CALLS / 10);
        texts(due);
    }

    private static int oneRun(Due due, List<Method> methods, Random random) throws Exception {
        SnuffCourt x = Due.told("case wax 9 5 bees 7;case tallow 30 thief 60 4;case wax 5 wax 5;first 2;bare 4;draught 2 3;"
                + "docket 0 0 1 1;");
        int refused = 0;
        for (int i = 0; i < CALLS; i++) {
            Method m = methods.get(random.nextInt(methods.size()));
            if (m.getName().equals("text")) {
                continue;
            }
            Object[] args = new Object[m.getParameterCount()];
            for (int a = 0; a < args.length; a++) {
                args[a] = random.nextInt(3) == 0 ? NUMBERS[random.nextInt(NUMBERS.length)] : random.nextInt(3);
            }
            String before = tell(x, SCRATCH);
            long got = ((Number) m.invoke(x, args)).longValue();
            if (got < 0 || !CHANGES.contains(m.getName())) {
                refused += got < 0 ? 1 : 0;
                due.holds(m.getName() + java.util.Arrays.toString(args) + ", " + got + ", changes nothing",
                        before.equals(tell(x, SCRATCH)));
            }
        }
        return refused;
    }

    /** A text with a FAULT empties THE TAPE and leaves all else. */
    private static void texts(Due due) throws Exception {
        due.group("refused, texts");
        SnuffCourt x = Due.told("case wax 9 5 bees 7;case tallow 30 thief 60 4;first 2;bare 4;draught 2 3;docket 0 0 1 1;");
        x.see(0, 0, 1);
        x.keep(1);
        x.hear(1, 0);
        x.appeal(1);
        x.sheet(3, 2, 40);
        x.read(3, 1, 0, 1);
        Set<String> also = new java.util.HashSet<>(SCRATCH);
        also.add("reader");
        String before = tell(x, also);
        String most = "case bees 1 bees 1;first 3;draught 3 3;docket 0 0";
        for (int n = 1; n <= most.length(); n++) {
            due.holds("a FAULT behind " + n + " bytes", Due.tell(x, most.substring(0, n) + "#") < 0);
            due.is("THE TAPE", x.count(2), 0);
            due.holds("all else stays", before.equals(tell(x, also)));
        }
        due.holds("none", Due.tell(x, most + ";") == 4 && !before.equals(tell(x, also)));
    }

    private static String tell(Object x, Set<String> without) throws Exception {
        StringBuilder b = new StringBuilder();
        tellInto(b, x, without);
        return b.toString();
    }

    private static void tellInto(StringBuilder b, Object x, Set<String> without) throws Exception {
        for (Field f : x.getClass().getDeclaredFields()) {
            if (Modifier.isStatic(f.getModifiers()) || without.contains(f.getName())) {
                continue;
            }
            f.setAccessible(true);
            Object v = f.get(x);
            b.append(f.getName()).append('=');
            if (f.getType().isArray()) {
                for (int i = 0; i < Array.getLength(v); i++) {
                    b.append(Array.get(v, i)).append(' ');
                }
            } else if (f.getType().isPrimitive()) {
                b.append(v).append(' ');
            } else {
                tellInto(b, v, without);
            }
        }
    }
}
