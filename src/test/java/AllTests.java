/** Runs every test of the project; the path of SnuffCourt.java is its argument. */
public final class AllTests {
    private AllTests() {
    }

    public static void main(String[] args) throws Exception {
        Due due = new Due();
        TextTest.run(due);
        StateTest.run(due);
        HearingTest.run(due);
        BestTest.run(due);
        OddsTest.run(due);
        SeenTest.run(due);
        DriftTest.run(due);
        SheetTest.run(due);
        ModelTest.run(due);
        RoomTest.run(due);
        LanguageTest.run(due, args.length > 0 ? args[0] : "src/main/java/SnuffCourt.java");
        System.out.println(due.passed() + " passed, " + due.failed() + " failed");
        if (due.failed() != 0) {
            System.exit(1);
        }
    }
}
