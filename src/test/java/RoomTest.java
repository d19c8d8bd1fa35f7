import java.lang.reflect.Method;
import java.util.Arrays;

/**
 * What 512 calls of each kind make: all calls of a run live in one room, in which nothing is given back.
 * The bounds are far below the room's, so that one call that makes a row of its own each time is seen.
 */
final class RoomTest {
    private static final int CALLS = 512;
    private static final long NEW_OBJECT = 100_000;
    private static final long ALL_CALLS = 16_000;
    /** The bytes of the row of numbers that Call makes each time. */
    private static final long NUMBERS_OF_CALL = 48;

    private RoomTest() {
    }

    static void run(Checks c) {
        if (allocated() == 0) {
            c.holds("this machine does not tell what is made", true);
            return;
        }
        newObject();
        c.holds("a new object", newObject() < NEW_OBJECT);
        for (String name : Call.NAMES) {
            for (int with = -1; with <= 2; with++) {
                CheeseCube box = filled();
                Call call = new Call(name, withAll(with));
                call.on(box);
                long before = allocated();
                for (int i = 0; i < CALLS; i++) {
                    call.on(box);
                }
                long made = allocated() - before;
                c.holds(name + " with " + with + " makes " + made + " bytes", made < ALL_CALLS + CALLS * NUMBERS_OF_CALL);
            }
        }
        laws(c);
    }

    /** A LAW is kept, and back() lets more come: no more than some hundreds in 512 calls. */
    private static void laws(Checks c) {
        CheeseCube box = new CheeseCube();
        box.image(0);
        String text = "weighs 1" + "+1".repeat(49);
        long before = allocated();
        for (int i = 0; i < CALLS / 10; i++) {
            Tape.law(box, text);
            box.back(0);
        }
        long made = allocated() - before;
        c.holds("LAWS make " + made + " bytes", made < 2_000_000);
    }

    /** By its name alone, for not every Java brings it along; 0 then. */
    private static long allocated() {
        try {
            Object bean = Class.forName("java.lang.management.ManagementFactory").getMethod("getThreadMXBean").invoke(null);
            Method bytes = Class.forName("com.sun.management.ThreadMXBean").getMethod("getCurrentThreadAllocatedBytes");
            return Math.max(0, (Long) bytes.invoke(bean));
        } catch (ReflectiveOperationException | ClassCastException | IllegalArgumentException e) {
            return 0;
        }
    }

    private static long newObject() {
        long before = allocated();
        CheeseCube box = new CheeseCube();
        long made = allocated() - before;
        return made + box.status();
    }

    private static int[] withAll(int number) {
        int[] with = new int[6];
        Arrays.fill(with, number);
        return with;
    }

    private static CheeseCube filled() {
        CheeseCube box = BoxTest.box(3, 2, 2);
        box.hole(2, 1, 1, 0, 1, 0);
        box.screw(0, 0, 0, 0, 3);
        box.tally(0, 0, 0, 3);
        box.force(Tape.law(box, "weighs x + 1; shuts if z = 1; takes if x = 9"));
        box.image(0);
        return box;
    }
}
