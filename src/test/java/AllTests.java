/** Runs every test of the project; exit code 1 if an answer was not as due. */
public final class AllTests {
    private AllTests() { }

    public static void main(String[] args) throws Exception {
        Tests tests = new Tests();
        tests.run(ToldTest.class);
        tests.run(MotionsTest.class);
        tests.run(UndoTest.class);
        tests.run(BandTest.class);
        tests.run(FillTest.class);
        tests.run(ShotsTest.class);
        tests.run(LookedAtTest.class);
        tests.run(RefusedTest.class);
        tests.eachPromiseHasOne();
        LanguageTest.run();
        ReadmeTest.run();
        if (args.length == 0) {
            ComparedRuns.run();
        }
        System.out.println("tests: " + tests.count());
        System.out.println("answers: " + Check.passed + " passed, " + Check.failed + " failed");
        if (Check.failed != 0) {
            System.exit(1);
        }
    }
}
