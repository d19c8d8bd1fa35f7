import java.util.ArrayList;
import java.util.HashSet;
import java.util.List;
import java.util.Set;

/**
 * The document once more, in its slowest and plainest form, to be compared with the class:
 * no bits, no counting by formula, texts as trees.
 */
final class Model {
    private static final int NONE = -1;

    private static final class State {
        int[] size = {5, 5, 5};
        int day;
        List<int[]> holes = new ArrayList<>();
        List<int[]> rows = new ArrayList<>();
        List<int[]> screws = new ArrayList<>();
        List<ModelLaw> laws = new ArrayList<>();
        int forced = NONE;
        int[][][] dark = new int[3][6][6];
        int[][] counts = new int[2][6];

        State copy() {
            State other = new State();
            other.size = size.clone();
            other.day = day;
            other.holes = new ArrayList<>(holes);
            other.rows = new ArrayList<>(rows);
            other.screws = new ArrayList<>(screws);
            other.laws = new ArrayList<>(laws);
            other.forced = forced;
            for (int axis = 0; axis < 3; axis++) {
                for (int u = 0; u < 6; u++) {
                    other.dark[axis][u] = dark[axis][u].clone();
                }
            }
            other.counts[0] = counts[0].clone();
            other.counts[1] = counts[1].clone();
            return other;
        }
    }

    private State s = new State();
    private final State[] images = new State[2];
    private final List<Integer> tape = new ArrayList<>();
    private List<Integer> feast = new ArrayList<>();
    private int fault = NONE;
    private int rinds;
    private int status;
    private final int[] refused = new int[7];

    private int refuse(int by) {
        refused[-by]++;
        status = by;
        return by;
    }

    private int good(int answer) {
        status = 0;
        return answer;
    }

    // ---- places

    private static int[] otherAxes(int axis) {
        return axis == 0 ? new int[] {1, 2} : axis == 1 ? new int[] {0, 2} : new int[] {0, 1};
    }

    private boolean isPlace(int axis, int u, int v) {
        if (axis < 0 || axis > 2) {
            return false;
        }
        int[] others = otherAxes(axis);
        return u >= 0 && u < s.size[others[0]] && v >= 0 && v < s.size[others[1]];
    }

    private static int[] at(int axis, int along, int u, int v) {
        int[] xyz = new int[3];
        int[] others = otherAxes(axis);
        xyz[axis] = along;
        xyz[others[0]] = u;
        xyz[others[1]] = v;
        return xyz;
    }

    private boolean inBox(int[] xyz) {
        for (int axis = 0; axis < 3; axis++) {
            if (xyz[axis] < 0 || xyz[axis] >= s.size[axis]) {
                return false;
            }
        }
        return true;
    }

    private static int code(int[] xyz) {
        return 36 * xyz[2] + 6 * xyz[1] + xyz[0];
    }

    private static int[] decode(int cell) {
        return new int[] {cell % 6, cell / 6 % 6, cell / 36};
    }

    private final java.util.Map<Integer, List<Integer>> knownCells = new java.util.HashMap<>();
    private final java.util.Map<Integer, List<Integer>> knownNeighbours = new java.util.HashMap<>();

    private int shape() {
        return 36 * s.size[2] + 6 * s.size[1] + s.size[0];
    }

    private List<Integer> boxCells() {
        return knownCells.computeIfAbsent(shape(), key -> {
            List<Integer> cells = new ArrayList<>();
            for (int z = 0; z < s.size[2]; z++) {
                for (int y = 0; y < s.size[1]; y++) {
                    for (int x = 0; x < s.size[0]; x++) {
                        cells.add(36 * z + 6 * y + x);
                    }
                }
            }
            return cells;
        });
    }

    private boolean isCell(int cell) {
        return boxCells().contains(cell);
    }

    private List<Integer> cellsOf(int[] rod) {
        List<Integer> cells = new ArrayList<>();
        int axis = rod[0];
        int along = rod[3] == 0 ? 0 : s.size[axis] - 1;
        int u = rod[1];
        for (int k = 0; k < rod[4]; k++) {
            int[] xyz = at(axis, along, u, rod[2]);
            if (!inBox(xyz)) {
                break;
            }
            cells.add(code(xyz));
            along += rod[3] == 0 ? 1 : -1;
            u += rod[5];
        }
        return cells;
    }

    private List<Integer> neighbours(int cell) {
        return knownNeighbours.computeIfAbsent(1000 * shape() + cell, key -> {
            int[] xyz = decode(cell);
            List<Integer> found = new ArrayList<>();
            for (int other : boxCells()) {
                int[] abc = decode(other);
                int far = Math.abs(xyz[0] - abc[0]) + Math.abs(xyz[1] - abc[1]) + Math.abs(xyz[2] - abc[2]);
                if (far == 1) {
                    found.add(other);
                }
            }
            return found;
        });
    }

    private List<Integer> line(int axis, int u, int v) {
        List<Integer> cells = new ArrayList<>();
        for (int along = 0; along < s.size[axis]; along++) {
            cells.add(code(at(axis, along, u, v)));
        }
        return cells;
    }

    private int redSides(int cell, int sides) {
        int[] xyz = decode(cell);
        int red = 0;
        for (int axis = 0; axis < 3; axis++) {
            if (xyz[axis] == 0 && (sides & 1 << 2 * axis) != 0) {
                red++;
            }
            if (xyz[axis] == s.size[axis] - 1 && (sides & 2 << 2 * axis) != 0) {
                red++;
            }
        }
        return red;
    }

    // ---- what is LEFT

    private int through(int cell) {
        int many = 0;
        for (int[] hole : s.holes) {
            if (cellsOf(hole).contains(cell)) {
                many++;
            }
        }
        return many;
    }

    private ModelLaw inForce() {
        return s.forced == NONE ? ModelLaw.EMPTY : s.laws.get(s.forced);
    }

    private int[] words(int cell, int holes) {
        int[] xyz = decode(cell);
        return new int[] {xyz[0], xyz[1], xyz[2], holes, redSides(cell, 63), s.day};
    }

    private boolean isLeft(int cell) {
        return isLeftWith(cell, through(cell));
    }

    private boolean isLeftWith(int cell, int holes) {
        return holes == 0 && !inForce().takes(words(cell, holes));
    }

    private int weight(int cell) {
        return inForce().weighs(words(cell, through(cell)));
    }

    private boolean isShut(int cell) {
        return inForce().shuts(words(cell, through(cell)));
    }

    private Set<Integer> leftCells() {
        Set<Integer> cells = new java.util.TreeSet<>();
        for (int cell : boxCells()) {
            if (isLeft(cell)) {
                cells.add(cell);
            }
        }
        return cells;
    }

    private List<Set<Integer>> piecesOf(Set<Integer> cells) {
        List<Set<Integer>> found = new ArrayList<>();
        Set<Integer> seen = new HashSet<>();
        for (int cell : new java.util.TreeSet<>(cells)) {
            if (seen.contains(cell)) {
                continue;
            }
            Set<Integer> piece = new java.util.TreeSet<>();
            List<Integer> open = new ArrayList<>();
            open.add(cell);
            piece.add(cell);
            while (!open.isEmpty()) {
                for (int next : neighbours(open.remove(open.size() - 1))) {
                    if (cells.contains(next) && piece.add(next)) {
                        open.add(next);
                    }
                }
            }
            seen.addAll(piece);
            found.add(piece);
        }
        return found;
    }

    // ---- the face

    int hole(int axis, int u, int v, int end, int deep, int leaning) {
        if (!canBe(axis, u, v, end, deep, leaning)) {
            return refuse(-1);
        }
        if (s.holes.size() == 16) {
            return refuse(-5);
        }
        s.holes.add(new int[] {axis, u, v, end, deep, leaning});
        return good(s.holes.size() - 1);
    }

    private boolean canBe(int axis, int u, int v, int end, int deep, int leaning) {
        return isPlace(axis, u, v) && (end == 0 || end == 1) && deep >= 1 && deep <= 6
                && leaning >= -1 && leaning <= 1;
    }

    int stop(int hole) {
        if (hole < 0 || hole >= s.holes.size()) {
            return refuse(-2);
        }
        s.holes.remove(hole);
        return good(s.holes.size());
    }

    int of(int hole, int what) {
        if (hole < 0 || hole >= s.holes.size() || what < 0 || what > 6) {
            return NONE;
        }
        int[] it = s.holes.get(hole);
        return what == 6 ? cellsOf(it).size() : what == 5 ? it[5] + 1 : it[what];
    }

    int terms(int what, int value) {
        if (what < 0 || what > 3 || (what == 3 ? value < 0 || value > 99 : value < 1 || value > 6)) {
            return refuse(-1);
        }
        if (what == 3) {
            int before = s.day;
            s.day = value;
            return good(before);
        }
        int before = s.size[what];
        s.size[what] = value;
        for (List<int[]> rods : List.of(s.holes, s.rows, s.screws)) {
            rods.removeIf(rod -> !isPlace(rod[0], rod[1], rod[2]));
        }
        return good(before);
    }

    int feed(int a, int b, int c, int d, int e) {
        if (tape.size() + 20 > 400) {
            return NONE;
        }
        for (int number : new int[] {a, b, c, d, e}) {
            for (byte one : java.nio.ByteBuffer.allocate(4).putInt(number).array()) {
                tape.add(Byte.toUnsignedInt(one));
            }
        }
        return tape.size();
    }

    int end(int n) {
        if (n < 0 || n > tape.size()) {
            return NONE;
        }
        tape.subList(n, tape.size()).clear();
        return n;
    }

    int row() {
        if (tape.isEmpty()) {
            return refuse(-6);
        }
        int came = 0;
        rinds = 0;
        for (int from = 0; from < tape.size(); from += 6) {
            List<Integer> six = tape.subList(from, Math.min(from + 6, tape.size()));
            if (six.size() == 6 && s.holes.size() < 16
                    && canBe(six.get(0), six.get(1), six.get(2), six.get(3), six.get(4), six.get(5) - 1)) {
                s.holes.add(new int[] {six.get(0), six.get(1), six.get(2), six.get(3), six.get(4), six.get(5) - 1});
                came++;
            } else {
                rinds++;
            }
        }
        tape.clear();
        return good(came);
    }

    int rinds() {
        return rinds;
    }

    int law() {
        StringBuilder text = new StringBuilder();
        for (int one : tape) {
            text.append((char) one);
        }
        tape.clear();
        if (s.laws.size() == 6) {
            return refuse(-5);
        }
        ModelLaw law = new ModelLaw(text.toString());
        fault = law.fault;
        if (law.fault != NONE) {
            return refuse(-6);
        }
        s.laws.add(law);
        return good(s.laws.size() - 1);
    }

    int fault() {
        return fault;
    }

    int force(int law) {
        if (law < NONE || law >= s.laws.size()) {
            return refuse(-2);
        }
        int before = s.forced;
        s.forced = law;
        return good(before);
    }

    int cell(int cell, int what) {
        if (!isCell(cell) || what < 0 || what > 3) {
            return NONE;
        }
        return what == 0 ? (isLeft(cell) ? 1 : 0) : what == 1 ? weight(cell)
                : what == 2 ? (isShut(cell) ? 1 : 0) : through(cell);
    }

    int left(int what) {
        Set<Integer> cells = leftCells();
        int found = 0;
        if (what == 0) {
            return cells.size();
        }
        if (what < 0 || what > 3) {
            return NONE;
        }
        for (int cell : cells) {
            if (what == 1) {
                found += weight(cell);
            } else if (what == 2) {
                for (int next : neighbours(cell)) {
                    found += cells.contains(next) ? 0 : 1;
                }
            } else {
                List<Integer> around = neighbours(cell);
                found += around.size() == 6 && cells.containsAll(around) ? 1 : 0;
            }
        }
        return found;
    }

    int slice(int axis, int u, int v) {
        return isPlace(axis, u, v) ? slice(axis, u, v, leftCells()) : NONE;
    }

    private int slice(int axis, int u, int v, Set<Integer> cells) {
        int found = 0;
        for (int cell : line(axis, u, v)) {
            found += cells.contains(cell) ? 1 : 0;
        }
        return found;
    }

    long vast(int x, int y, int z) {
        int[] size = {x, y, z};
        for (int one : size) {
            if (one < 1 || one > 1000) {
                return NONE;
            }
        }
        Set<Long> taken = new HashSet<>();
        for (int[] hole : s.holes) {
            int[] others = otherAxes(hole[0]);
            if (hole[1] < size[others[0]] && hole[2] < size[others[1]]) {
                for (int along = 0; along < size[hole[0]]; along++) {
                    int[] xyz = at(hole[0], along, hole[1], hole[2]);
                    taken.add((xyz[0] * 1000L + xyz[1]) * 1000L + xyz[2]);
                }
            }
        }
        return (long) x * y * z - taken.size();
    }

    int tally(int axis, int u, int v, int many) {
        if (!isPlace(axis, u, v) || many < 0 || many > 6) {
            return refuse(-1);
        }
        if (s.rows.size() == 8) {
            return refuse(-5);
        }
        s.rows.add(new int[] {axis, u, v, many});
        return good(s.rows.size());
    }

    int forget() {
        int before = s.rows.size();
        s.rows.clear();
        return before;
    }

    int judge() {
        Set<Integer> cells = leftCells();
        for (int i = 0; i < s.rows.size(); i++) {
            int[] row = s.rows.get(i);
            if (slice(row[0], row[1], row[2], cells) != row[3]) {
                return i;
            }
        }
        return NONE;
    }

    int wax(int sides, int many) {
        if (sides < 0 || sides > 63 || many < 0 || many > 6) {
            return NONE;
        }
        int found = 0;
        for (int cell : leftCells()) {
            found += redSides(cell, sides) == many ? 1 : 0;
        }
        return found;
    }

    /** Only for boxes that can be walked through in time. */
    long dipped(int x, int y, int z, int sides, int many) {
        if (Math.min(x, Math.min(y, z)) < 1 || Math.max(x, Math.max(y, z)) > 1000
                || sides < 0 || sides > 63 || many < 0 || many > 6) {
            return NONE;
        }
        long found = 0;
        for (int a = 0; a < x; a++) {
            for (int b = 0; b < y; b++) {
                for (int c = 0; c < z; c++) {
                    int red = (a == 0 ? sides & 1 : 0) + (a == x - 1 ? sides >> 1 & 1 : 0)
                            + (b == 0 ? sides >> 2 & 1 : 0) + (b == y - 1 ? sides >> 3 & 1 : 0)
                            + (c == 0 ? sides >> 4 & 1 : 0) + (c == z - 1 ? sides >> 5 & 1 : 0);
                    found += red == many ? 1 : 0;
                }
            }
        }
        return found;
    }

    int pieces(int i, int what) {
        List<Set<Integer>> found = piecesOf(leftCells());
        if (i == NONE) {
            return found.size();
        }
        if (i < 0 || i >= found.size() || what < 0 || what > 1) {
            return NONE;
        }
        return what == 0 ? found.get(i).size() : found.get(i).iterator().next();
    }

    // ---- FEWEST

    int fewest(int goal, int n, int what) {
        if (goal < 0 || goal > 2 || n < 0 || n > 216 || what < 0 || what > 7) {
            return NONE;
        }
        List<int[]> lines = new ArrayList<>();
        for (int axis = 0; axis < 3; axis++) {
            for (int u = 0; u < 6; u++) {
                for (int v = 0; v < 6; v++) {
                    if (isPlace(axis, u, v)) {
                        lines.add(new int[] {axis, u, v});
                    }
                }
            }
        }
        List<List<int[]>> ways = new ArrayList<>();
        tryAll(lines, 0, 0, new ArrayList<>(), goal, n, ways);
        for (int many = 1; many <= 2 && ways.isEmpty(); many++) {
            tryAll(lines, 0, many, new ArrayList<>(), goal, n, ways);
        }
        if (what == 1) {
            return ways.size();
        }
        if (ways.isEmpty()) {
            return NONE;
        }
        List<int[]> first = ways.get(0);
        if (what == 0) {
            return first.size();
        }
        int hole = (what - 2) / 3;
        return hole < first.size() ? first.get(hole)[(what - 2) % 3] : NONE;
    }

    private void tryAll(List<int[]> lines, int from, int more, List<int[]> taken, int goal, int n,
            List<List<int[]>> ways) {
        if (more == 0) {
            if (isEnd(taken, goal, n)) {
                ways.add(new ArrayList<>(taken));
            }
            return;
        }
        for (int i = from; i < lines.size(); i++) {
            taken.add(lines.get(i));
            tryAll(lines, i + 1, more - 1, taken, goal, n, ways);
            taken.remove(taken.size() - 1);
        }
    }

    private boolean isEnd(List<int[]> more, int goal, int n) {
        Set<Integer> cells = new HashSet<>();
        for (int cell : boxCells()) {
            int holes = through(cell);
            for (int[] line : more) {
                holes += line(line[0], line[1], line[2]).contains(cell) ? 1 : 0;
            }
            if (isLeftWith(cell, holes)) {
                cells.add(cell);
            }
        }
        if (goal == 2) {
            return cells.size() == n;
        }
        if (goal == 1) {
            return piecesOf(cells).size() >= n;
        }
        for (int cell : cells) {
            if (stepsToAir(cell, cells) > n) {
                return false;
            }
        }
        return true;
    }

    /** The nearest air by steps in any way is at the least sum of differences, for all cells may be gone through. */
    private int stepsToAir(int cell, Set<Integer> cells) {
        int[] xyz = decode(cell);
        int least = 99;
        for (int x = -1; x <= s.size[0]; x++) {
            for (int y = -1; y <= s.size[1]; y++) {
                for (int z = -1; z <= s.size[2]; z++) {
                    int[] air = {x, y, z};
                    if (!inBox(air) || !cells.contains(code(air))) {
                        least = Math.min(least, Math.abs(x - xyz[0]) + Math.abs(y - xyz[1]) + Math.abs(z - xyz[2]));
                    }
                }
            }
        }
        return least;
    }

    // ---- VIEWS

    int view(int axis, int u, int v, int dark) {
        if (axis < 0 || axis > 2 || u < 0 || u > 5 || v < 0 || v > 5 || dark < 0 || dark > 1) {
            return refuse(-1);
        }
        int before = s.dark[axis][u][v];
        s.dark[axis][u][v] = dark;
        return good(before);
    }

    private Set<Integer> most() {
        Set<Integer> cells = new HashSet<>();
        for (int cell : boxCells()) {
            int[] xyz = decode(cell);
            if (s.dark[0][xyz[1]][xyz[2]] == 1 && s.dark[1][xyz[0]][xyz[2]] == 1 && s.dark[2][xyz[0]][xyz[1]] == 1) {
                cells.add(cell);
            }
        }
        return cells;
    }

    private List<List<Integer>> darkLines() {
        List<List<Integer>> lines = new ArrayList<>();
        for (int axis = 0; axis < 3; axis++) {
            for (int u = 0; u < 6; u++) {
                for (int v = 0; v < 6; v++) {
                    if (isPlace(axis, u, v) && s.dark[axis][u][v] == 1) {
                        lines.add(line(axis, u, v));
                    }
                }
            }
        }
        return lines;
    }

    int views(int what) {
        Set<Integer> most = most();
        if (what == 0) {
            return most.size();
        }
        if (what == 2) {
            return piecesOf(most).size();
        }
        if (what != 1 && what != 3) {
            return NONE;
        }
        boolean can = true;
        for (List<Integer> line : darkLines()) {
            Set<Integer> common = new HashSet<>(line);
            common.retainAll(most);
            can &= !common.isEmpty();
        }
        if (what == 1) {
            return can ? 1 : 0;
        }
        if (!can || s.size[0] > 3 || s.size[1] > 3 || s.size[2] > 3) {
            return NONE;
        }
        return cover(darkLines(), most, new HashSet<>(), 27);
    }

    /** The least number of cells that meet all lines, by trying each cell of the first line that is not met. */
    private int cover(List<List<Integer>> lines, Set<Integer> most, Set<Integer> taken, int best) {
        List<Integer> open = null;
        int lacking = 0;
        for (List<Integer> line : lines) {
            if (java.util.Collections.disjoint(line, taken)) {
                open = open == null ? line : open;
                lacking++;
            }
        }
        if (open == null) {
            return Math.min(best, taken.size());
        }
        if (taken.size() + (lacking + 2) / 3 >= best) {
            return best;
        }
        for (int cell : open) {
            if (most.contains(cell)) {
                taken.add(cell);
                best = cover(lines, most, taken, best);
                taken.remove(cell);
            }
        }
        return best;
    }

    // ---- ANEW

    int anew(int sides) {
        if (sides < 0 || sides > 63) {
            return NONE;
        }
        List<Integer> cells = boxCells();
        int[] placeOwner = new int[cells.size()];
        java.util.Arrays.fill(placeOwner, NONE);
        int matched = 0;
        boolean[][] can = new boolean[cells.size()][cells.size()];
        for (int i = 0; i < cells.size(); i++) {
            for (int j = 0; j < cells.size(); j++) {
                can[i][j] = Turns.canHide(faces(cells.get(i)) & sides, faces(cells.get(j)));
            }
        }
        for (int i = 0; i < cells.size(); i++) {
            matched += place(i, can, placeOwner, new boolean[cells.size()]) ? 1 : 0;
        }
        return matched;
    }

    private int faces(int cell) {
        int faces = 0;
        for (int side = 0; side < 6; side++) {
            faces |= redSides(cell, 1 << side) == 1 ? 1 << side : 0;
        }
        return faces;
    }

    private boolean place(int i, boolean[][] can, int[] owner, boolean[] seen) {
        for (int j = 0; j < owner.length; j++) {
            if (can[i][j] && !seen[j]) {
                seen[j] = true;
                if (owner[j] == NONE || place(owner[j], can, owner, seen)) {
                    owner[j] = i;
                    return true;
                }
            }
        }
        return false;
    }

    // ---- WIRE

    int wire(int i) {
        Set<Integer> cells = leftCells();
        int even = 0;
        for (int cell : cells) {
            int[] xyz = decode(cell);
            even += (xyz[0] + xyz[1] + xyz[2]) % 2 == 0 ? 1 : 0;
        }
        boolean barred = Math.abs(even - (cells.size() - even)) > 1 || piecesOf(cells).size() > 1;
        if (i == -2) {
            return barred ? 1 : 0;
        }
        if (i < -2) {
            return NONE;
        }
        if (barred) {
            return i == NONE ? 0 : NONE;
        }
        if (cells.size() > 14) {
            return NONE;
        }
        List<Integer> path = new ArrayList<>();
        boolean found = goOn(path, cells);
        if (i == NONE) {
            return found ? 1 : 0;
        }
        return found && i < path.size() ? path.get(i) : NONE;
    }

    private boolean goOn(List<Integer> path, Set<Integer> cells) {
        if (path.size() == cells.size()) {
            return true;
        }
        for (int cell : cells) {
            boolean near = path.isEmpty() || neighbours(path.get(path.size() - 1)).contains(cell);
            if (near && !path.contains(cell)) {
                path.add(cell);
                if (goOn(path, cells)) {
                    return true;
                }
                path.remove(path.size() - 1);
            }
        }
        return false;
    }

    // ---- SCREWS

    int screw(int axis, int u, int v, int end, int deep) {
        if (!canBe(axis, u, v, end, deep, 0)) {
            return refuse(-1);
        }
        if (s.screws.size() == 8) {
            return refuse(-5);
        }
        s.screws.add(new int[] {axis, u, v, end, deep, 0});
        return good(s.screws.size());
    }

    int unscrew() {
        int before = s.screws.size();
        s.screws.clear();
        return before;
    }

    int meet(int what) {
        if (what < 0 || what > 2) {
            return NONE;
        }
        int pairs = 0;
        int most = 0;
        int which = 0;
        for (int set = 0; set < 1 << s.screws.size(); set++) {
            int met = meetings(set);
            if (set == (1 << s.screws.size()) - 1) {
                pairs = met;
            }
            if (met == 0 && Integer.bitCount(set) > most) {
                most = Integer.bitCount(set);
                which = set;
            }
        }
        return what == 0 ? pairs : what == 1 ? most : which;
    }

    private int meetings(int set) {
        int found = 0;
        for (int i = 0; i < s.screws.size(); i++) {
            for (int j = 0; j < i; j++) {
                if ((set >> i & 1) == 1 && (set >> j & 1) == 1
                        && !java.util.Collections.disjoint(cellsOf(s.screws.get(i)), cellsOf(s.screws.get(j)))) {
                    found++;
                }
            }
        }
        return found;
    }

    // ---- COUNTS

    int told(int way, int place, int many) {
        if (way < 0 || way > 1 || place < 0 || place > 5 || many < 0 || many > 6) {
            return refuse(-1);
        }
        int before = s.counts[way][place];
        s.counts[way][place] = many;
        return good(before);
    }

    int fits(int x) {
        if (x < NONE || x >= s.size[0]) {
            return NONE;
        }
        int[] first = new int[6];
        int[] rest = java.util.Arrays.copyOf(s.counts[1], s.size[1]);
        int ways = fill(0, rest, new int[6], first, 0);
        return x == NONE ? ways : ways == 0 ? NONE : first[x];
    }

    private int fill(int x, int[] rest, int[] sets, int[] first, int found) {
        if (x == s.size[0]) {
            for (int one : rest) {
                if (one != 0) {
                    return found;
                }
            }
            if (found == 0) {
                System.arraycopy(sets, 0, first, 0, 6);
            }
            return found + 1;
        }
        for (int set = 0; set < 1 << s.size[1]; set++) {
            if (Integer.bitCount(set) != s.counts[0][x]) {
                continue;
            }
            boolean good = true;
            for (int y = 0; y < s.size[1]; y++) {
                rest[y] -= set >> y & 1;
                good &= rest[y] >= 0 && rest[y] < s.size[0] - x;
            }
            sets[x] = set;
            if (good) {
                found = fill(x + 1, rest, sets, first, found);
            }
            for (int y = 0; y < s.size[1]; y++) {
                rest[y] += set >> y & 1;
            }
        }
        return found;
    }

    // ---- ANTS

    int ant(int from, int to, int what) {
        Set<Integer> open = new HashSet<>();
        for (int cell : leftCells()) {
            if (!isShut(cell)) {
                open.add(cell);
            }
        }
        if (!open.contains(from) || !open.contains(to) || what < NONE) {
            return NONE;
        }
        List<List<Integer>> ways = new ArrayList<>();
        Set<Integer> seen = new HashSet<>();
        ways.add(List.of(from));
        seen.add(from);
        for (int i = 0; i < ways.size(); i++) {
            List<Integer> way = ways.get(i);
            int last = way.get(way.size() - 1);
            if (last == to) {
                return what == NONE ? way.size() - 1 : what < way.size() ? way.get(what) : NONE;
            }
            for (int next : neighbours(last)) {
                if (open.contains(next) && seen.add(next)) {
                    List<Integer> longer = new ArrayList<>(way);
                    longer.add(next);
                    ways.add(longer);
                }
            }
        }
        return NONE;
    }

    // ---- FEAST, IMAGES

    int feast(int seed, int n) {
        if (seed < 0 || seed > 1000000 || n < 0 || n > 60) {
            return refuse(-1);
        }
        long[] draw = {seed};
        Set<Integer> cells = leftCells();
        feast = new ArrayList<>();
        for (int i = 0; i < n; i++) {
            int axis = draw(draw, 3);
            int u = draw(draw, s.size[otherAxes(axis)[0]]);
            int v = draw(draw, s.size[otherAxes(axis)[1]]);
            cells.removeAll(line(axis, u, v));
            feast.add(cells.size());
        }
        return good(cells.size());
    }

    private static int draw(long[] state, int m) {
        state[0] = (state[0] * 1103 + 12345) % 1000003;
        return (int) (state[0] % m);
    }

    int drawn(int i) {
        return i >= 0 && i < feast.size() ? feast.get(i) : NONE;
    }

    int image(int k) {
        if (k < 0 || k > 1) {
            return refuse(-1);
        }
        images[k] = s.copy();
        return good(0);
    }

    int back(int k) {
        if (k < 0 || k > 1) {
            return refuse(-1);
        }
        if (images[k] == null) {
            return refuse(-2);
        }
        s = images[k].copy();
        return good(0);
    }

    int count(int what) {
        switch (what) {
            case 0: return s.size[0];
            case 1: return s.size[1];
            case 2: return s.size[2];
            case 3: return s.holes.size();
            case 4: return s.laws.size();
            case 5: return s.rows.size();
            case 6: return s.screws.size();
            case 7: return tape.size();
            case 8: return refused[1];
            case 9: return refused[2];
            case 10: return refused[3];
            case 11: return refused[5];
            case 12: return refused[6];
            case 13: return s.forced;
            case 14: return s.day;
            default: return NONE;
        }
    }

    int status() {
        return status;
    }
}
