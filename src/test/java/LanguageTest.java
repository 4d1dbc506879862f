import java.lang.reflect.Constructor;
import java.lang.reflect.Field;
import java.lang.reflect.Method;
import java.lang.reflect.Modifier;
import java.nio.file.Files;
import java.nio.file.Path;
import java.util.HashSet;
import java.util.Set;
import java.util.TreeSet;
import java.util.regex.Matcher;
import java.util.regex.Pattern;

/** The face of the document, and those rules of LANGUAGE.md that can be read off the source. */
final class LanguageTest {
    private static final String[] FACE = {"feed 1", "end 1", "text 0", "fault 0", "rule 1", "flame 3", "suit 2", "judge 2",
        "draught 2", "docket 2", "trim 4", "train 3", "blow 2", "calm 1", "plan 2", "cut 1", "hear 2", "appeal 1",
        "foretell 3", "runs 1", "ahead 1", "friends 2", "wax 3", "least 3", "hand 3", "turn 3", "sure 3", "rest 3",
        "share 2", "swap 2", "luck 5", "mean 3", "see 3", "forget 1", "habits 1", "slows 1", "ask 2", "drift 3", "keep 1",
        "back 1", "sheet 3", "lay 3", "read 4", "torn 0", "count 1"};

    private LanguageTest() {
    }

    static void run(Due due, String path) throws Exception {
        due.group("language");
        Set<String> names = face(due);
        for (Class<?> c : SnuffCourt.class.getDeclaredClasses()) {
            due.holds(c.getName() + " is static", Modifier.isStatic(c.getModifiers()));
            due.holds(c.getName() + " is not public", (c.getModifiers() & (Modifier.PUBLIC | Modifier.PROTECTED)) == 0);
            due.holds(c.getName() + " has few fields", fieldsOf(c) <= 20);
            for (Method m : c.getDeclaredMethods()) {
                due.holds(c.getName() + "." + m.getName() + " bears no public name", !names.contains(m.getName()));
                due.holds(m.getName() + " has few parameters", m.getParameterCount() <= 7);
            }
        }
        due.holds("some twelve classes", SnuffCourt.class.getDeclaredClasses().length <= 11);
        due.holds("some twenty fields", fieldsOf(SnuffCourt.class) <= 20);
        source(due, Files.readString(Path.of(path)));
    }

    private static int fieldsOf(Class<?> c) {
        int fields = 0;
        for (Field f : c.getDeclaredFields()) {
            fields += Modifier.isStatic(f.getModifiers()) ? 0 : 1;
        }
        return fields;
    }

    private static Set<String> face(Due due) {
        due.holds("final", Modifier.isFinal(SnuffCourt.class.getModifiers()));
        Set<String> got = new TreeSet<>();
        Set<String> names = new HashSet<>();
        for (Method m : SnuffCourt.class.getDeclaredMethods()) {
            if (Modifier.isPublic(m.getModifiers())) {
                got.add(m.getName() + " " + m.getParameterCount());
                names.add(m.getName());
                boolean isLong = m.getName().equals("luck") || m.getName().equals("mean");
                due.holds(m.getName() + " answers", m.getReturnType() == (isLong ? long.class : int.class));
                for (Class<?> p : m.getParameterTypes()) {
                    due.holds(m.getName() + " takes int", p == int.class);
                }
            }
        }
        due.holds("the face is the document's: " + got, got.equals(new TreeSet<>(Set.of(FACE))));
        for (Method m : SnuffCourt.class.getDeclaredMethods()) {
            if (!Modifier.isPublic(m.getModifiers()) && !m.isSynthetic()) {
                due.holds(m.getName() + " is private", Modifier.isPrivate(m.getModifiers()));
                due.holds(m.getName() + " bears no public name", !names.contains(m.getName()));
            }
        }
        Set<String> constants = new TreeSet<>();
        for (Field f : SnuffCourt.class.getDeclaredFields()) {
            if (!Modifier.isPrivate(f.getModifiers())) {
                due.holds(f.getName() + " is public static final",
                        (f.getModifiers() & (Modifier.PUBLIC | Modifier.STATIC | Modifier.FINAL)) == 25);
                constants.add(f.getName());
            }
        }
        due.holds("the constants " + constants, constants.equals(Set.of("BAD", "STATE", "FULL", "NONE")));
        Constructor<?>[] made = SnuffCourt.class.getDeclaredConstructors();
        due.holds("one public constructor",
                made.length == 1 && Modifier.isPublic(made[0].getModifiers()) && made[0].getParameterCount() == 0);
        return names;
    }

    private static void source(Due due, String all) {
        String code = all.replaceAll("(?s)/\\*.*?\\*/", "").replaceAll("//[^\n]*", "").replaceAll("\"[^\"]*\"", "\"\"")
                .replaceAll("'[^']'", "' '");
        for (String word : new String[] {"throw", "throws", "try", "catch", "finally", "synchronized", "assert", "import",
            "package", "float", "double", "Object", "var", "Override", "System\\.out", "Random", "Thread", "native",
            "hashCode", "toString"}) {
            Matcher m = Pattern.compile("\\b" + word + "\\b").matcher(code);
            due.holds("no " + word, !m.find());
        }
        due.holds("no lambda, no method reference", !code.contains("->") && !code.contains("::"));
        due.holds("no text joined by +", !code.contains("\" +") && !code.contains("+ \""));
        due.holds("no annotation", !code.contains("@"));
        Matcher library = Pattern.compile("\\b(Math|Integer|Long|System|Arrays)\\.(\\w+)").matcher(code);
        while (library.find()) {
            due.holds("library " + library.group(), Set.of("Math.max", "Math.min", "Integer.bitCount",
                    "Integer.numberOfTrailingZeros", "System.arraycopy").contains(library.group()));
        }
        due.holds("signs 1 to 127", all.chars().allMatch(c -> c < 128));
        int longest = 0;
        int since = 0;
        String[] lines = all.split("\n");
        for (int i = 0; i < lines.length; i++) {
            if (lines[i].matches(" {4,8}[a-z].*\\) \\{")) {
                since = i;
            }
            if (lines[i].matches(" {4,8}\\}")) {
                longest = Math.max(longest, i - since + 1);
            }
        }
        due.holds("short methods: " + longest, longest > 10 && longest <= 60);
    }
}
