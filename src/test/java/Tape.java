import java.util.ArrayList;
import java.util.List;

/** Brings bytes and texts onto the TAPE of an object by feed() and end(). */
final class Tape {
    private Tape() {
    }

    /** The calls that bring bytes behind a tape that has so many already. */
    static List<Call> calls(int[] bytes, int before) {
        List<Call> calls = new ArrayList<>();
        for (int from = 0; from < bytes.length; from += 20) {
            int[] five = new int[5];
            for (int i = 0; i < 20; i++) {
                int one = from + i < bytes.length ? bytes[from + i] : 0;
                five[i / 4] |= one << 24 - 8 * (i % 4);
            }
            calls.add(new Call("feed", five));
        }
        calls.add(new Call("end", before + bytes.length));
        return calls;
    }

    static int[] bytes(String text) {
        int[] bytes = new int[text.length()];
        for (int i = 0; i < bytes.length; i++) {
            bytes[i] = text.charAt(i) & 255;
        }
        return bytes;
    }

    static void put(CheeseCube c, int... bytes) {
        for (Call call : calls(bytes, c.count(7))) {
            call.on(c);
        }
    }

    /** What law() answers to a text. */
    static int law(CheeseCube c, String text) {
        c.end(0);
        put(c, bytes(text));
        return c.law();
    }
}
