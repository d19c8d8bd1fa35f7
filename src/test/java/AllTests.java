/** Runs every test of the project, a line "passed .." or "FAILED .." for each. */
public final class AllTests {
    private static int failed;

    private interface Test {
        void run(Checks checks) throws Exception;
    }

    private AllTests() {
    }

    private static void test(String name, Test test) {
        Checks checks = new Checks(name);
        String thrown = "";
        try {
            test.run(checks);
        } catch (Exception | StackOverflowError e) {
            thrown = " threw " + e;
            e.printStackTrace(System.out);
        }
        boolean good = thrown.isEmpty() && checks.failed() == 0 && checks.passed() > 0;
        System.out.println((good ? "passed " : "FAILED ") + name + ", " + checks.passed() + " checks" + thrown);
        failed += good ? 0 : 1;
    }

    public static void main(String[] args) throws Exception {
        int runs = args.length > 0 ? Integer.parseInt(args[0]) : 40;
        long seed = args.length > 1 ? Long.parseLong(args[1]) : 1;
        test("the model", checks -> ModelTest.run(checks, runs, seed));
        if (failed > 0) {
            System.exit(1);
        }
    }
}
