import java.io.IOException;

/** Runs every test of the project; ends with exit code 1 if one fails. */
public final class AllTests {
    public static void main(String[] args) throws IOException {
        Due due = new Due();
        PromiseTests.run(due);
        TextEdges.run(due);
        TuningEdges.run(due);
        GroupEdges.run(due);
        HighEdges.run(due);
        KeptEdges.run(due);
        ReadmeTests.run(due);
        ModelTests.run(due);
        LanguageTests.run(due, args.length > 0 ? args[0] : "src/main/java/RoundOfTheA.java");
        System.out.println("project: " + due.passed() + " passed, " + due.failed() + " failed");
        if (due.failed() > 0) System.exit(1);
    }
}
