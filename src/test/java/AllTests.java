/** Runs every test of the project; exit code 1 if an answer was not as due. */
public final class AllTests {
    private AllTests() { }

    public static void main(String[] args) throws Exception {
        ToldTest.run();
        MotionsTest.run();
        BandTest.run();
        ShotsTest.run();
        LookedAtTest.run();
        LanguageTest.run();
        ComparedRuns.run();
        System.out.println("answers: " + Check.passed + " passed, " + Check.failed + " failed");
        if (Check.failed != 0) {
            System.exit(1);
        }
    }
}
