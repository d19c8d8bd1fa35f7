import java.util.ArrayList;
import java.util.List;
import java.util.Random;

/** Runs of calls, drawn from fixed seeds, on the class and on the model: each answer is the same. */
final class ModelTest {
    private final Random random;
    private final Texts texts;
    private final Model model = new Model();
    private final CheeseCube object = new CheeseCube();
    private final List<Call> done = new ArrayList<>();
    private final Checks checks;
    private boolean same = true;

    private ModelTest(long seed, Checks checks) {
        this.random = new Random(seed);
        this.texts = new Texts(random);
        this.checks = checks;
    }

    static void run(Checks checks, int runs, long firstSeed) {
        for (int i = 0; i < runs && checks.failed() == 0; i++) {
            new ModelTest(firstSeed + i, checks).go(300);
        }
    }

    private void go(int calls) {
        while (done.size() < calls && same) {
            step();
        }
    }

    private void call(String name, int... with) {
        call(new Call(name, with));
    }

    private void call(Call call) {
        if (!same) {
            return;
        }
        done.add(call);
        long want = call.on(model);
        long got = call.on(object);
        checks.due(call.toString(), got, want);
        checks.due("status() behind " + call, object.status(), model.status());
        if (got != want || object.status() != model.status()) {
            same = false;
            System.out.println("  behind " + done);
        }
    }

    private int near(int from, int to) {
        return random.nextInt(25) == 0 ? from - 1 + random.nextInt(2) * (to - from + 2)
                : from + random.nextInt(to - from + 1);
    }

    private int size(int axis) {
        return model.count(axis);
    }

    private int u(int axis) {
        return near(0, (axis == 0 ? size(1) : size(0)) - 1);
    }

    private int v(int axis) {
        return near(0, (axis == 2 ? size(1) : size(2)) - 1);
    }

    private int someCell() {
        return random.nextInt(30) == 0 ? random.nextInt(240) - 10
                : 36 * random.nextInt(size(2)) + 6 * random.nextInt(size(1)) + random.nextInt(size(0));
    }

    private void step() {
        int axis = near(0, 2);
        switch (random.nextInt(36)) {
            case 0: case 1: case 2:
                call("hole", axis, u(axis), v(axis), near(0, 1), near(1, 6), near(-1, 1));
                break;
            case 3:
                call("stop", near(0, Math.max(0, model.count(3) - 1)));
                break;
            case 4:
                call("of", near(0, Math.max(0, model.count(3) - 1)), near(0, 6));
                break;
            case 5:
                call("terms", random.nextInt(4), random.nextInt(4) == 0 ? near(0, 99) : near(1, 6));
                break;
            case 6:
                rowOfHoles();
                break;
            case 7: case 8: case 9:
                lawFromText();
                break;
            case 10:
                call("force", near(NONE(), Math.max(0, model.count(4) - 1)));
                break;
            case 11: case 12:
                call("cell", someCell(), near(0, 3));
                break;
            case 13: case 14:
                call("left", near(0, 3));
                break;
            case 15:
                call("slice", axis, u(axis), v(axis));
                break;
            case 16:
                int most = random.nextInt(3) == 0 ? 1000 : 7;
                call("vast", near(1, most), near(1, most), near(1, most));
                break;
            case 17:
                call("tally", axis, u(axis), v(axis), random.nextInt(2) == 0 ? near(0, 6)
                        : Math.max(0, model.slice(axis, u(axis), v(axis))));
                call("judge");
                break;
            case 18:
                call(random.nextInt(4) == 0 ? "forget" : random.nextInt(4) == 0 ? "unscrew" : "rinds");
                break;
            case 19:
                call("wax", near(0, 63), near(0, 6));
                break;
            case 20:
                call("dipped", near(1, 9), near(1, 9), near(1, 9), near(0, 63), near(0, 6));
                break;
            case 21: case 22:
                call("pieces", near(NONE(), 3), near(0, 1));
                break;
            case 23:
                fewest();
                break;
            case 24: case 25:
                views();
                break;
            case 26:
                call("anew", near(0, 63));
                break;
            case 27:
                wire();
                break;
            case 28: case 29:
                call("screw", axis, u(axis), v(axis), near(0, 1), near(1, 6));
                call("meet", near(0, 2));
                break;
            case 30: case 31:
                counts();
                break;
            case 32:
                int from = someCell();
                int to = someCell();
                call("ant", from, to, NONE());
                call("ant", from, to, near(0, 12));
                break;
            case 33:
                call("feast", random.nextInt(20) == 0 ? near(0, 1000000) : random.nextInt(1000001), near(0, 60));
                call("drawn", near(0, 59));
                break;
            case 34:
                call(random.nextInt(3) > 0 ? "image" : "back", near(0, 1));
                break;
            default:
                call("count", near(0, 14));
        }
    }

    private static int NONE() {
        return CheeseCube.NONE;
    }

    private void feed(int[] bytes) {
        for (Call call : Tape.calls(bytes, model.count(7))) {
            call(call);
        }
    }

    private void rowOfHoles() {
        int[] bytes = new int[random.nextInt(30)];
        for (int i = 0; i < bytes.length; i++) {
            int[] ends = {2, 5, 5, 1, 6, 2};
            bytes[i] = random.nextInt(20) == 0 ? random.nextInt(256)
                    : random.nextInt(ends[i % 6] + 1) + (i % 6 == 4 && random.nextInt(9) > 0 ? 1 : 0);
        }
        feed(bytes);
        call("row");
        call("rinds");
    }

    private void lawFromText() {
        String text = texts.next();
        feed(Tape.bytes(text));
        call("law");
        call("fault");
        if (random.nextInt(2) == 0) {
            call("force", model.count(4) - 1);
        }
        if (model.count(4) >= 5 && random.nextInt(2) == 0) {
            call("back", random.nextInt(2));
        }
    }

    private void fewest() {
        if (size(0) * size(1) * size(2) > 24) {
            call("terms", random.nextInt(3), 1 + random.nextInt(3));
            return;
        }
        int goal = near(0, 2);
        int now = model.left(0);
        int n = goal == 0 ? near(0, 2) : goal == 1 ? near(0, 6) : Math.max(-1, now - random.nextInt(9));
        for (int what = 0; what <= 7; what++) {
            call("fewest", goal, n, what);
        }
        call("fewest", goal, n, near(0, 7));
    }

    private void views() {
        int kind = random.nextInt(4);
        for (int i = 0; i < 12; i++) {
            int axis = near(0, 2);
            int cell = someCell();
            int[] xyz = {cell % 6, cell / 6 % 6, cell / 36};
            if (kind == 0) {
                call("view", axis, near(0, 5), near(0, 5), near(0, 1));
            } else if (cell >= 0 && cell < 216) {
                call("view", 0, xyz[1], xyz[2], kind == 1 ? 0 : 1);
                call("view", 1, xyz[0], xyz[2], kind == 1 ? 0 : 1);
                call("view", 2, xyz[0], xyz[1], kind == 1 ? 0 : 1);
            }
        }
        for (int what = 0; what <= 3; what++) {
            call("views", what);
        }
        call("views", near(0, 3));
    }

    private void wire() {
        for (int i = -2; i < 3; i++) {
            call("wire", i);
        }
        call("wire", near(-2, 14));
        if (model.left(0) > 14 && random.nextInt(2) == 0) {
            call("terms", random.nextInt(3), 1 + random.nextInt(3));
        }
    }

    /** Counts of holes that are there, so that they can be met, and now and then any. */
    private void counts() {
        int[] x = new int[6];
        int[] y = new int[6];
        for (int i = 0; i < 36; i++) {
            int one = i / 6 < size(0) && i % 6 < size(1) ? random.nextInt(2) : 0;
            x[i / 6] += one;
            y[i % 6] += one;
        }
        for (int i = 0; i < 6; i++) {
            call("told", 0, i, x[i]);
            call("told", 1, i, y[i]);
        }
        if (random.nextInt(3) == 0) {
            call("told", near(0, 1), near(0, 5), near(0, 6));
        }
        for (int i = NONE(); i < size(0); i++) {
            call("fits", i);
        }
        call("fits", near(-1, 5));
    }
}
