import java.lang.reflect.InvocationTargetException;
import java.lang.reflect.Method;
import java.util.ArrayList;
import java.util.Comparator;
import java.util.HashMap;
import java.util.HashSet;
import java.util.List;
import java.util.Map;
import java.util.Random;
import java.util.Set;

/** All promises by chance: the same calls to SnuffCourt and to the Model, from fixed seeds. */
final class ModelTest {
    private static final int RUNS = 1500;
    private static final int CALLS = 120;
    private static final String[] NAMES = {"case", "draught", "docket", "first", "long", "short", "bare", "tallow", "wax",
        "bees", "thief", "lamp"};

    private ModelTest() {
    }

    static void run(Due due) throws Exception {
        due.group("model");
        Map<String, Set<Long>> answers = new HashMap<>();
        int before = due.failed();
        for (int seed = 0; seed < RUNS && due.failed() == before; seed++) {
            oneRun(due, seed, answers);
        }
        for (Method m : calls()) {
            int few = answers.getOrDefault(m.getName(), Set.of()).size();
            due.holds(m.getName() + " has several answers, " + few, few >= (m.getParameterCount() == 0 ? 2 : 3));
        }
        for (int seed = 0; seed < 20000 && due.failed() == before; seed++) {
            oneText(due, new Random(-1 - seed));
        }
    }

    private static List<Method> calls() {
        List<Method> calls = new ArrayList<>();
        for (Method m : SnuffCourt.class.getDeclaredMethods()) {
            if (java.lang.reflect.Modifier.isPublic(m.getModifiers())) {
                calls.add(m);
            }
        }
        calls.sort(Comparator.comparing(Method::getName));
        return calls;
    }

    private static long call(Method m, Object on, Object[] args) throws Exception {
        try {
            return ((Number) on.getClass().getDeclaredMethod(m.getName(), m.getParameterTypes()).invoke(on, args)).longValue();
        } catch (InvocationTargetException e) {
            throw new IllegalStateException(m.getName() + java.util.Arrays.toString(args), e.getCause());
        }
    }

    private static void oneRun(Due due, int seed, Map<String, Set<Long>> answers) throws Exception {
        Random random = new Random(seed);
        SnuffCourt x = new SnuffCourt();
        Model y = new Model();
        due.group("model, seed " + seed);
        tell(due, x, y, goodText(random));
        List<Method> calls = calls();
        int before = due.failed();
        for (int i = 0; i < CALLS && due.failed() == before; i++) {
            if (random.nextInt(60) == 0) {
                tell(due, x, y, random.nextInt(3) == 0 ? spoilt(random, goodText(random)) : goodText(random));
                continue;
            }
            Method m = calls.get(random.nextInt(calls.size()));
            if (m.getName().equals("text") && random.nextInt(20) != 0) {
                continue;
            }
            Object[] args = new Object[m.getParameterCount()];
            for (int a = 0; a < args.length; a++) {
                args[a] = number(random, m.getName(), a);
            }
            long got = call(m, x, args);
            due.is("call " + i + ", " + m.getName() + java.util.Arrays.toString(args), got, call(m, y, args));
            answers.computeIfAbsent(m.getName(), n -> new HashSet<>()).add(got);
        }
        sameState(due, x, y);
    }

    /** Mostly small numbers, as CASES, SIDES, JUDGES are. */
    private static int number(Random random, String call, int place) {
        int odds = random.nextInt(40);
        if (odds == 0) {
            return random.nextInt(10) - 5;
        }
        if (odds == 1) {
            return random.nextBoolean() ? Integer.MAX_VALUE - random.nextInt(3) : Integer.MIN_VALUE + random.nextInt(3);
        }
        String at = call + place;
        if (at.equals("drift0")) {
            return random.nextInt();
        }
        if (at.equals("feed0")) {
            return random.nextInt(140) - 5;
        }
        if (at.equals("trim3") || at.equals("least1")) {
            return random.nextInt(random.nextBoolean() ? 10 : 101);
        }
        if (at.equals("share1") && random.nextBoolean()) {
            return 10 + random.nextInt(4);
        }
        if (at.equals("drift1") || at.equals("sheet2")) {
            return random.nextInt(random.nextInt(8) == 0 ? 70 : 10);
        }
        if (at.equals("lay2") && random.nextInt(4) == 0) {
            return random.nextInt(3) << 8 | random.nextInt(3) << 16 | random.nextInt(3);
        }
        if (at.equals("blow0") || at.equals("blow1") || at.equals("train2") || at.equals("turn2") || at.equals("luck0")
                || at.equals("mean0") || at.equals("rule0") || at.equals("end0") || at.equals("lay1")) {
            return random.nextInt(11);
        }
        if (at.equals("calm0") || at.equals("cut0") || at.equals("forget0") || at.equals("see2") || at.equals("runs0")
                || at.equals("count0")) {
            return random.nextInt(6);
        }
        return random.nextInt(random.nextInt(4) == 0 ? 4 : 2);
    }

    private static void tell(Due due, SnuffCourt x, Model y, String text) {
        x.end(0);
        y.end(0);
        for (char c : text.toCharArray()) {
            due.is("feed", x.feed(c), y.feed(c));
        }
        due.is("text \"" + text + "\"", x.text(), y.text());
        due.is("fault \"" + text + "\"", x.fault(), y.fault());
    }

    private static void sameState(Due due, SnuffCourt x, Model y) {
        for (int what = -1; what < 9; what++) {
            due.is("rule " + what, x.rule(what), y.rule(what));
            due.is("count " + what, x.count(what), y.count(what));
        }
        for (int i = 0; i < 6; i++) {
            for (int what = 0; what < 4; what++) {
                due.is("flame 0", x.flame(i, 0, what), y.flame(i, 0, what));
                due.is("flame 1", x.flame(i, 1, what), y.flame(i, 1, what));
                due.is("suit", x.suit(i, what), y.suit(i, what));
                due.is("judge", x.judge(i, what), y.judge(i, what));
                due.is("draught", x.draught(i, what), y.draught(i, what));
                due.is("docket", x.docket(i, what), y.docket(i, what));
            }
        }
    }

    private static void oneText(Due due, Random random) {
        SnuffCourt x = new SnuffCourt();
        Model y = new Model();
        due.group("model, texts");
        String text = random.nextInt(4) == 0 ? anyTokens(random) : goodText(random);
        for (int i = random.nextInt(3); i > 0; i--) {
            text = spoilt(random, text);
        }
        tell(due, x, y, text);
        sameState(due, x, y);
    }

    private static String anyTokens(Random random) {
        StringBuilder b = new StringBuilder();
        for (int i = random.nextInt(12); i > 0; i--) {
            int sort = random.nextInt(5);
            b.append(sort < 2 ? NAMES[random.nextInt(NAMES.length)] : sort < 4 ? "" + random.nextInt(120) : ";");
            b.append(random.nextBoolean() ? " " : "");
        }
        return b.toString();
    }

    private static String spoilt(Random random, String text) {
        int at = random.nextInt(text.length() + 1);
        String head = text.substring(0, at);
        String tail = text.substring(at);
        switch (random.nextInt(5)) {
            case 0: return head;
            case 1: return head + tail.substring(Math.min(1, tail.length()));
            case 2: return head + (char) random.nextInt(128) + tail;
            case 3: return head + (char) ('0' + random.nextInt(10)) + tail;
            default: return head + NAMES[random.nextInt(NAMES.length)] + tail;
        }
    }

    private static String goodText(Random random) {
        int cases = random.nextInt(8) == 0 ? 0 : 1 + random.nextInt(4);
        int judges = random.nextInt(8) == 0 ? 0 : 1 + random.nextInt(3);
        List<String> lines = new ArrayList<>();
        for (int i = 0; i < cases; i++) {
            lines.add("case" + flame(random) + flame(random) + ";");
        }
        for (int i = 0; i < judges; i++) {
            lines.add(NAMES[3 + random.nextInt(4)] + " " + (1 + random.nextInt(random.nextBoolean() ? 4 : 9)) + ";");
        }
        for (int i = random.nextInt(random.nextBoolean() ? 2 : 5); i > 0; i--) {
            lines.add("draught " + random.nextInt(random.nextInt(3) == 0 ? 21 : 5) + " " + (1 + random.nextInt(9)) + ";");
        }
        if (cases > 0 && judges > 0 && random.nextInt(3) != 0) {
            StringBuilder b = new StringBuilder("docket");
            for (int i = random.nextInt(7); i > 0; i--) {
                b.append(" ").append(random.nextInt(cases)).append(" ").append(random.nextInt(judges));
            }
            lines.add(b.append(";").toString());
        }
        if (random.nextInt(3) == 0) {
            java.util.Collections.shuffle(lines, random);
        }
        String text = String.join(random.nextInt(5) == 0 ? " " : "", lines);
        return text.length() > 160 ? text.substring(0, text.lastIndexOf(';', 159) + 1) : text;
    }

    private static String flame(Random random) {
        return " " + NAMES[7 + random.nextInt(4)] + " " + random.nextInt(random.nextBoolean() ? 13 : 60)
                + (random.nextBoolean() ? " " + random.nextInt(10) : "");
    }
}
