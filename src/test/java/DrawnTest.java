import java.util.Random;

/** One kind of question at a time, on states drawn so that its answers are not plain; the model is asked, too. */
final class DrawnTest {
    private final Random random;
    private final Checks checks;
    private final CheeseCube object = new CheeseCube();
    private final Model model = new Model();
    private final StringBuilder told = new StringBuilder();

    private DrawnTest(Checks checks, long seed) {
        this.checks = checks;
        this.random = new Random(seed);
    }

    private long call(String name, int... with) {
        Call call = new Call(name, with);
        long want = call.on(model);
        long got = call.on(object);
        if (told.length() < 3000) {
            told.append(call).append(' ');
        }
        checks.due(call.toString(), got, want);
        if (got != want && checks.failed() == 1) {
            System.out.println("  behind " + told);
        }
        return want;
    }

    private void sizes(int most) {
        for (int axis = 0; axis < 3; axis++) {
            call("terms", axis, 1 + random.nextInt(most));
        }
    }

    private void holes(int most) {
        for (int i = random.nextInt(most + 1); i > 0; i--) {
            int axis = random.nextInt(3);
            int u = random.nextInt(model.count(axis == 0 ? 1 : 0));
            int v = random.nextInt(model.count(axis == 2 ? 1 : 2));
            call("hole", axis, u, v, random.nextInt(2), 1 + random.nextInt(6), random.nextInt(3) - 1);
        }
    }

    private boolean law(String text) {
        for (Call call : Tape.calls(Tape.bytes(text), 0)) {
            if (call(call.name(), call.with()) == CheeseCube.NONE) {
                call("end", 0);
                return false;
            }
        }
        told.append(" [").append(text).append("] ");
        boolean good = call("law") >= 0;
        call("fault");
        return good;
    }

    private void takeSome() {
        String[] texts = {"takes if x + y + z = 2 or x * y > z", "takes if [x + 2 * y + 3 * z] / 3 * 3 = x + 2 * y + 3 * z",
            "takes if rind = 1 and not x = 1", "takes if [x * 7 + y * 5 + z * 3] / 4 * 4 < x * 7 + y * 5 + z * 3 - 2"};
        if (random.nextInt(2) == 0 && law(texts[random.nextInt(texts.length)])) {
            call("force", 0);
        }
    }

    static void texts(Checks checks, int runs, long firstSeed) {
        for (long seed = firstSeed; seed < firstSeed + runs; seed++) {
            DrawnTest test = new DrawnTest(checks, seed);
            test.sizes(6);
            test.holes(6);
            test.call("terms", 3, test.random.nextInt(100));
            Texts texts = new Texts(test.random);
            for (int i = 0; i < 12; i++) {
                if (test.law(texts.next())) {
                    test.call("force", test.model.count(4) - 1);
                    test.askAllCells();
                    test.call("image", 0);
                }
            }
        }
    }

    private void askAllCells() {
        for (int cell = 0; cell < 216; cell++) {
            for (int what = 0; what < 3; what++) {
                call("cell", cell, what);
            }
        }
        call("left", 0);
        call("left", 1);
        call("left", 2);
        call("left", 3);
    }

    static void fewest(Checks checks, int runs, long firstSeed) {
        for (long seed = firstSeed; seed < firstSeed + runs; seed++) {
            DrawnTest test = new DrawnTest(checks, seed);
            test.sizes(seed % 8 == 0 ? 5 : 3);
            test.holes(3);
            test.takeSome();
            int goal = test.random.nextInt(3);
            int now = test.model.left(0);
            int pieces = test.model.pieces(-1, 0);
            int n = goal == 0 ? test.random.nextInt(3)
                    : goal == 1 ? pieces + test.random.nextInt(4) : Math.max(0, now - test.random.nextInt(8));
            for (int what = 0; what < 8; what++) {
                if (test.small() || what < 2) {
                    test.call("fewest", goal, n, what);
                }
            }
        }
    }

    private boolean small() {
        return model.count(0) * model.count(1) * model.count(2) <= 30;
    }

    static void wires(Checks checks, int runs, long firstSeed) {
        for (long seed = firstSeed; seed < firstSeed + runs; seed++) {
            DrawnTest test = new DrawnTest(checks, seed);
            test.sizes(4);
            test.holes(12);
            test.takeSome();
            for (int i = -2; i < 15; i++) {
                test.call("wire", i);
            }
        }
    }

    /** Darkness as some cells make it, so that it can be, and then one place more or less. */
    static void views(Checks checks, int runs, long firstSeed) {
        for (long seed = firstSeed; seed < firstSeed + runs; seed++) {
            DrawnTest test = new DrawnTest(checks, seed);
            test.sizes(seed % 4 == 0 ? 6 : 3);
            int often = 1 + test.random.nextInt(10);
            for (int cell = 0; cell < 216; cell++) {
                if (test.model.cell(cell, 3) != CheeseCube.NONE && test.random.nextInt(often) == 0) {
                    test.call("view", 0, cell / 6 % 6, cell / 36, 1);
                    test.call("view", 1, cell % 6, cell / 36, 1);
                    test.call("view", 2, cell % 6, cell / 6 % 6, 1);
                }
            }
            for (int round = 0; round < 2; round++) {
                for (int what = 0; what < 4; what++) {
                    test.call("views", what);
                }
                test.call("view", test.random.nextInt(3), test.random.nextInt(6), test.random.nextInt(6), 1);
                test.call("view", test.random.nextInt(3), test.random.nextInt(3), test.random.nextInt(3), 0);
            }
        }
    }

    static void boxes(Checks checks, int runs, long firstSeed) {
        for (long seed = firstSeed; seed < firstSeed + runs; seed++) {
            DrawnTest test = new DrawnTest(checks, seed);
            test.sizes(seed % 4 == 0 ? 6 : 3);
            int sides = test.random.nextInt(64);
            test.call("anew", sides);
            test.sizes(6);
            test.holes(16);
            test.takeSome();
            test.call("vast", 1 + test.random.nextInt(7), 1 + test.random.nextInt(7), 1 + test.random.nextInt(7));
            for (int many = 0; many < 7; many++) {
                test.call("wax", sides, many);
                test.call("dipped", 1 + test.random.nextInt(5), 1 + test.random.nextInt(5),
                        1 + test.random.nextInt(5), sides, many);
            }
            test.askPieces();
        }
    }

    private void askPieces() {
        long many = call("pieces", -1, 0);
        for (int i = 0; i <= many; i++) {
            call("pieces", i, 0);
            call("pieces", i, 1);
        }
    }

    static void ants(Checks checks, int runs, long firstSeed) {
        for (long seed = firstSeed; seed < firstSeed + runs; seed++) {
            DrawnTest test = new DrawnTest(checks, seed);
            test.sizes(6);
            test.holes(12);
            test.takeSome();
            for (int i = 0; i < 10; i++) {
                int from = test.random.nextInt(216);
                int to = test.random.nextInt(216);
                long steps = test.call("ant", from, to, -1);
                for (int what = 0; what <= steps + 1; what++) {
                    test.call("ant", from, to, what);
                }
            }
        }
    }
}
