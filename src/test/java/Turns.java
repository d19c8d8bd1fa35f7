import java.util.ArrayList;
import java.util.HashSet;
import java.util.List;
import java.util.Set;

/** The 24 ways a cube can be turned, as moves of its sides (0 x low, 1 x high, 2 y low, ...). */
final class Turns {
    private static final List<List<Integer>> ALL = all();

    private Turns() {
    }

    /** Whether a cube red on some sides can be turned so that no side of some others is red. */
    static boolean canHide(int red, int outside) {
        for (List<Integer> turn : ALL) {
            int shown = 0;
            for (int side = 0; side < 6; side++) {
                shown |= (red >> side & 1) << turn.get(side);
            }
            if ((shown & outside) == 0) {
                return true;
            }
        }
        return false;
    }

    static int many() {
        return ALL.size();
    }

    private static List<List<Integer>> all() {
        List<Integer> aboutZ = List.of(2, 3, 1, 0, 4, 5);
        List<Integer> aboutX = List.of(0, 1, 4, 5, 3, 2);
        Set<List<Integer>> found = new HashSet<>();
        List<List<Integer>> open = new ArrayList<>();
        open.add(List.of(0, 1, 2, 3, 4, 5));
        found.add(open.get(0));
        for (int i = 0; i < open.size(); i++) {
            for (List<Integer> more : List.of(aboutZ, aboutX)) {
                List<Integer> next = new ArrayList<>();
                for (int side = 0; side < 6; side++) {
                    next.add(more.get(open.get(i).get(side)));
                }
                if (found.add(next)) {
                    open.add(next);
                }
            }
        }
        return open;
    }
}
