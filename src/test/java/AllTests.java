/** Runs every test of the project, a line "passed .." or "FAILED .." for each. */
public final class AllTests {
    private static int failed;

    interface Test {
        void run(Checks checks) throws Exception;
    }

    private AllTests() {
    }

    static void test(String name, Test test) {
        Checks checks = new Checks(name);
        String thrown = "";
        try {
            test.run(checks);
        } catch (Exception | StackOverflowError e) {
            thrown = " threw " + e;
            e.printStackTrace(System.out);
        }
        boolean good = thrown.isEmpty() && checks.failed() == 0 && checks.passed() > 0;
        System.out.println((good ? "passed " : "FAILED ") + name + ", " + checks.passed() + " checks" + thrown);
        failed += good ? 0 : 1;
    }

    public static void main(String[] args) throws Exception {
        int runs = args.length > 0 ? Integer.parseInt(args[0]) : 40;
        long seed = args.length > 1 ? Long.parseLong(args[1]) : 1;
        test("promise 1: A new object", BoxTest::promise1);
        test("promise 2: hole", BoxTest::promise2);
        test("promise 3: stop", BoxTest::promise3);
        test("promise 4: of", BoxTest::promise4);
        test("promise 5: terms", BoxTest::promise5);
        test("promise 6: feed", TapeTest::promise6);
        test("promise 7: end", TapeTest::promise7);
        test("promise 8: row", TapeTest::promise8);
        test("promise 9: rinds", TapeTest::promise9);
        test("promise 10: law", TapeTest::promise10);
        test("promise 11: fault", TapeTest::promise11);
        test("promise 12: force", TapeTest::promise12);
        test("promise 13: cell", BoxTest::promise13);
        test("promise 14: left", BoxTest::promise14);
        test("promise 15: slice", BoxTest::promise15);
        test("promise 16: vast", CountTest::promise16);
        test("promise 17: tally", CountTest::promise17);
        test("promise 18: forget", CountTest::promise18);
        test("promise 19: judge", CountTest::promise19);
        test("promise 20: wax", BoxTest::promise20);
        test("promise 21: dipped", CountTest::promise21);
        test("promise 22: pieces", BoxTest::promise22);
        test("promise 23: fewest", SearchTest::promise23);
        test("promise 24: view", SearchTest::promise24);
        test("promise 25: views", SearchTest::promise25);
        test("promise 26: anew", CountTest::promise26);
        test("promise 27: wire", SearchTest::promise27);
        test("promise 28: screw", CountTest::promise28);
        test("promise 29: unscrew", CountTest::promise29);
        test("promise 30: meet", CountTest::promise30);
        test("promise 31: told", CountTest::promise31);
        test("promise 32: fits", CountTest::promise32);
        test("promise 33: ant", SearchTest::promise33);
        test("promise 34: feast", KeepTest::promise34);
        test("promise 35: drawn", KeepTest::promise35);
        test("promise 36: image", KeepTest::promise36);
        test("promise 37: back", KeepTest::promise37);
        test("promise 38: count", KeepTest::promise38);
        test("promise 39: status", KeepTest::promise39);
        Edges.runAll();
        test("promises 10, 13: what SUMS come to", TapeTest::sums);
        test("promises 10, 13: what TESTS come to", TapeTest::tests);
        test("all promises: any numbers in any state", ExtremeTest::run);
        test("all promises: runs beside the model", checks -> ModelTest.run(checks, runs, seed));
        test("promises 10, 11, 13, 14: texts", checks -> DrawnTest.texts(checks, runs, seed));
        test("promises 16, 20, 21, 22, 26: boxes", checks -> DrawnTest.boxes(checks, 5 * runs, seed));
        test("promise 23: fewest", checks -> DrawnTest.fewest(checks, 2 * runs, seed));
        test("promise 25: views", checks -> DrawnTest.views(checks, 5 * runs, seed));
        test("promise 27: wires", checks -> DrawnTest.wires(checks, 5 * runs, seed));
        test("promise 33: ants", checks -> DrawnTest.ants(checks, 2 * runs, seed));
        test("the public face", SourceTest::face);
        test("LANGUAGE.md: room", RoomTest::run);
        test("LANGUAGE.md: classes, fields, parameters", SourceTest::shape);
        test("LANGUAGE.md: words", SourceTest::words);
        test("README.md: its examples", ReadmeTest::examples);
        test("README.md: it names every call", ReadmeTest::calls);
        if (failed > 0) {
            System.exit(1);
        }
    }
}
