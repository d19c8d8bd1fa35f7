import java.util.Random;

/** Any numbers in any state: no call throws, and the model answers the same. */
final class ExtremeTest {
    private static final int[] NUMBERS = {Integer.MIN_VALUE, Integer.MIN_VALUE + 1, -1000000007, -7, -2, -1, 0, 0, 0, 1,
        1, 2, 3, 4, 5, 6, 7, 8, 15, 16, 36, 63, 64, 215, 216, 217, 1000, 1001, 1000000, 1000001, 65535, 0x40000000,
        Integer.MAX_VALUE - 1, Integer.MAX_VALUE};

    private ExtremeTest() {
    }

    static void run(Checks c) {
        for (int seed = 0; seed < 60 && c.failed() == 0; seed++) {
            oneRun(c, new Random(seed));
        }
    }

    private static void oneRun(Checks c, Random random) {
        CheeseCube object = new CheeseCube();
        Model model = new Model();
        for (int axis = 0; axis < 3; axis++) {
            int size = 1 + random.nextInt(3);
            object.terms(axis, size);
            model.terms(axis, size);
        }
        for (int i = 0; i < 400; i++) {
            int[] with = new int[6];
            for (int k = 0; k < with.length; k++) {
                with[k] = random.nextInt(40) == 0 ? random.nextInt() : NUMBERS[random.nextInt(NUMBERS.length)];
            }
            Call call = new Call(Call.NAMES.get(random.nextInt(Call.NAMES.size())), with);
            if (!tooLarge(call, model)) {
                c.due(call.toString(), call.on(object), call.on(model));
                c.due("status behind " + call, object.status(), model.status());
            }
        }
    }

    /** What the model can't answer in time. */
    private static boolean tooLarge(Call call, Model model) {
        int[] with = call.with();
        boolean fewest = call.name().equals("fewest") && model.count(0) * model.count(1) * model.count(2) > 30;
        boolean dipped = call.name().equals("dipped") && Math.max(with[0], Math.max(with[1], with[2])) > 64;
        return fewest || dipped;
    }
}
