import java.nio.file.Path;

/** Runs every test of the project; its arguments are the paths of SnuffCourt.java, of DOC.md and of README.md. */
public final class AllTests {
    private AllTests() {
    }

    public static void main(String[] args) throws Exception {
        Due due = new Due();
        TextTest.run(due);
        StateTest.run(due);
        HearingTest.run(due);
        BestTest.run(due);
        OddsTest.run(due);
        SeenTest.run(due);
        DriftTest.run(due);
        SheetTest.run(due);
        edges(due, Path.of(args.length > 1 ? args[1] : "../shared/DOC.md"));
        BoundsTest.run(due);
        RefusedTest.run(due);
        ModelTest.run(due);
        RoomTest.run(due);
        LanguageTest.run(due, args.length > 0 ? args[0] : "src/main/java/SnuffCourt.java");
        ReadmeTest.run(due, args.length > 2 ? args[2] : "README.md");
        System.out.println(due.passed() + " passed, " + due.failed() + " failed");
        if (due.failed() != 0) {
            System.exit(1);
        }
    }

    private static void edges(Due due, Path document) throws Exception {
        Edges edges = new Edges(due, document);
        EdgeTextTest.run(due, edges);
        EdgeStateTest.run(due, edges);
        EdgeHearingTest.run(due, edges);
        EdgeBestTest.run(due, edges);
        EdgeSeenTest.run(due, edges);
        EdgeSheetTest.run(due, edges);
        edges.allAreHeld();
    }
}
