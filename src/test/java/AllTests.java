import java.io.IOException;
import java.nio.file.Path;

/** Runs every test of the project. The argument is the source file of the class under test. */
public final class AllTests {
    private AllTests() {
    }

    public static void main(String[] args) throws IOException {
        Tally tally = new Tally();
        GroundAndHeatTests.run(tally);
        GroundEdgeTests.run(tally);
        BorderAndTickTests.run(tally);
        TickEdgeTests.run(tally);
        ShapeTests.run(tally);
        ShapeEdgeTests.run(tally);
        WayTests.run(tally);
        WayEdgeTests.run(tally);
        LegendTests.run(tally);
        LegendEdgeTests.run(tally);
        CommandTests.run(tally);
        CommandEdgeTests.run(tally);
        LineTests.run(tally);
        LineEdgeTests.run(tally);
        ChangeTests.run(tally);
        ChangeEdgeTests.run(tally);
        UseTests.run(tally);
        FaceTests.run(tally);
        LanguageTests.run(tally, Path.of(args[0]));
        TreeTests.run(tally, Path.of(args[0]));
        RandomRunTests.run(tally);
        RandomRunTests.runLong(tally);
        System.out.println("checks: " + tally.passed() + " passed, " + tally.failed() + " failed");
        if (tally.failed() > 0) {
            System.exit(1);
        }
    }
}
