/** Counts answers that are as due, and tells those that are not. */
final class Due {
    private String group = "";
    private int passed = 0;
    private int failed = 0;

    void group(String name) {
        group = name;
    }

    void is(String call, long got, long want) {
        if (got == want) {
            passed++;
            return;
        }
        failed++;
        if (failed <= 50) {
            System.out.println(group + ": " + call + " answered " + got + ", due is " + want);
        }
    }

    void holds(String what, boolean itDoes) {
        is(what, itDoes ? 1 : 0, 1);
    }

    int passed() {
        return passed;
    }

    int failed() {
        return failed;
    }

    /** The tape must be empty ahead of it. */
    static int tell(SnuffCourt x, String text) {
        for (int i = 0; i < text.length(); i++) {
            x.feed(text.charAt(i));
        }
        return x.text();
    }

    static SnuffCourt told(String text) {
        SnuffCourt x = new SnuffCourt();
        int lines = tell(x, text);
        if (lines < 0) {
            throw new IllegalStateException("no text: " + text + " answered " + lines);
        }
        return x;
    }
}
