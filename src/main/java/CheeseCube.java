/**
 * A box of cheese in little cubes with holes poked through it.
 * The document (DOC.md) tells what each call answers; words in capitals in the comments are its words.
 */
public final class CheeseCube {
    /** There is none. */
    public static final int NONE = -1;

    private static final int CAN_NOT_BE = -1;
    private static final int NOT_THERE = -2;
    private static final int NO_ROOM = -5;
    private static final int BAD_TEXT = -6;

    private static final int SIZE_LIMIT = 6;
    private static final int CELL_LIMIT = 216;
    private static final int VAST_LIMIT = 1000;
    private static final int DAY_LIMIT = 99;
    private static final int SIDES_LIMIT = 63;
    private static final int RED_LIMIT = 6;
    private static final int SEED_LIMIT = 1000000;

    private final Held held = new Held();
    private final Held firstImage = new Held();
    private final Held secondImage = new Held();
    private final Cheese cheese = new Cheese(held);
    private final Reader reader = new Reader();
    private final Paper paper = new Paper(held, cheese);
    private final Views shadows = new Views(held);
    private final Paths paths = new Paths(held, cheese);
    private final Vast vastBox = new Vast(held);
    private final Picks picks = new Picks(held);
    private final int[] refusals = new int[5];
    private int latest;
    private int latestRinds;

    /** A BOX of five each way. */
    public CheeseCube() {
    }

    /** A HOLE: its number. */
    public int hole(int axis, int u, int v, int end, int deep, int leaning) {
        if (!held.canPoke(axis, u, v, end, deep) || leaning < -1 || leaning > 1) {
            return refuse(CAN_NOT_BE);
        }
        if (held.holes.isFull()) {
            return refuse(NO_ROOM);
        }
        held.holes.add(axis, u, v, end, deep, leaning);
        cheese.renew();
        return accept(held.holes.many() - 1);
    }

    /** A HOLE is stopped: how many there are still. */
    public int stop(int hole) {
        if (hole < 0 || hole >= held.holes.many()) {
            return refuse(NOT_THERE);
        }
        held.holes.drop(hole);
        cheese.renew();
        return accept(held.holes.many());
    }

    /** A number of a HOLE. */
    public int of(int hole, int what) {
        if (hole < 0 || hole >= held.holes.many() || what < 0 || what > Rods.WIDTH) {
            return NONE;
        }
        if (what == Rods.WIDTH) {
            return held.lengthOf(held.holes, hole);
        }
        int number = held.holes.number(hole, what);
        return what == Rods.LEANING ? number + 1 : number;
    }

    /** A TERM is changed: what it was. */
    public int terms(int what, int value) {
        boolean size = what >= 0 && what <= 2 && value >= 1 && value <= SIZE_LIMIT;
        boolean day = what == 3 && value >= 0 && value <= DAY_LIMIT;
        if (!size && !day) {
            return refuse(CAN_NOT_BE);
        }
        int before = day ? held.changeDay(value) : held.changeSize(what, value);
        cheese.renew();
        return accept(before);
    }

    /** Twenty bytes more: how many the TAPE has. */
    public int feed(int a, int b, int c, int d, int e) {
        return reader.append(a, b, c, d, e);
    }

    /** The TAPE has its first n bytes alone. */
    public int end(int n) {
        return reader.cut(n);
    }

    /** A ROW of HOLES from the TAPE: how many came. */
    public int row() {
        int length = reader.length();
        if (length == 0) {
            return refuse(BAD_TEXT);
        }
        int came = 0;
        int rind = 0;
        for (int at = 0; at < length; at += Rods.WIDTH) {
            if (at + Rods.WIDTH <= length && pokeFromTape(at)) {
                came++;
            } else {
                rind++;
            }
        }
        latestRinds = rind;
        reader.clear();
        cheese.renew();
        return accept(came);
    }

    /** How many were RIND in the latest row() that was not REFUSED. */
    public int rinds() {
        return latestRinds;
    }

    /** The TAPE becomes a LAW: its number. */
    public int law() {
        if (held.hasAllLaws()) {
            reader.clear();
            return refuse(NO_ROOM);
        }
        Law law = reader.readLaw();
        reader.clear();
        if (law == null) {
            return refuse(BAD_TEXT);
        }
        return accept(held.addLaw(law));
    }

    /** FAULT of the latest law() that read a TEXT. */
    public int fault() {
        return reader.faultPlace();
    }

    /** A LAW is in FORCE: which was. */
    public int force(int law) {
        if (law != NONE && !held.hasLaw(law)) {
            return refuse(NOT_THERE);
        }
        int before = held.changeForced(law);
        cheese.renew();
        return accept(before);
    }

    /** Of a CELL: LEFT, its weight, SHUT, how many HOLES go through it. */
    public int cell(int cell, int what) {
        if (!held.hasCell(cell)) {
            return NONE;
        }
        switch (what) {
            case 0:
                return cheese.present().has(cell) ? 1 : 0;
            case 1:
                return cheese.weightAt(cell);
            case 2:
                return cheese.shut().has(cell) ? 1 : 0;
            case 3:
                return cheese.holesAt(cell);
            default:
                return NONE;
        }
    }

    /** How many CELLS are LEFT, their weight, BARE sides, INSIDE ones. */
    public int left(int what) {
        switch (what) {
            case 0:
                return cheese.present().many();
            case 1:
                return cheese.weightOfAll();
            case 2:
                return cheese.bareSides();
            case 3:
                return cheese.insideOnes();
            default:
                return NONE;
        }
    }

    /** How many CELLS of a row are LEFT. */
    public int slice(int axis, int u, int v) {
        return held.hasPlaces(axis, u, v) ? cheese.leftOnLine(axis, u, v) : NONE;
    }

    /** How many CELLS of a VAST box are left. */
    public long vast(int x, int y, int z) {
        return isVast(x) && isVast(y) && isVast(z) ? vastBox.leftOf(x, y, z) : NONE;
    }

    /** A ROW that was counted: how many there are. */
    public int tally(int axis, int u, int v, int many) {
        if (!held.hasPlaces(axis, u, v) || many < 0 || many > SIZE_LIMIT) {
            return refuse(CAN_NOT_BE);
        }
        if (held.rows.isFull()) {
            return refuse(NO_ROOM);
        }
        held.rows.add(axis, u, v, many, 0, 0);
        return accept(held.rows.many());
    }

    /** ROWS are none then: how many there were. */
    public int forget() {
        return held.rows.clear();
    }

    /** The first ROW that is not so. */
    public int judge() {
        Rods rows = held.rows;
        for (int row = 0; row < rows.many(); row++) {
            int axis = rows.number(row, Rods.AXIS);
            int found = cheese.leftOnLine(axis, rows.number(row, Rods.U), rows.number(row, Rods.V));
            if (found != rows.number(row, Rods.COUNTED)) {
                return row;
            }
        }
        return NONE;
    }

    /** How many CELLS that are LEFT have just so many red sides. */
    public int wax(int sides, int many) {
        return isWax(sides, many) ? cheese.waxed(sides, many) : NONE;
    }

    /** The same of a whole vast box. */
    public long dipped(int x, int y, int z, int sides, int many) {
        if (!isVast(x) || !isVast(y) || !isVast(z) || !isWax(sides, many)) {
            return NONE;
        }
        return vastBox.waxedOf(x, y, z, sides, many);
    }

    /** How many PIECES; how many CELLS one has, its lowest. */
    public int pieces(int i, int what) {
        if (i == NONE) {
            return cheese.pieceCount();
        }
        return i < 0 || what < 0 || what > 1 ? NONE : cheese.pieceNumber(i, what);
    }

    /** FEWEST HOLES more for an END. */
    public int fewest(int goal, int n, int what) {
        if (goal < 0 || goal > 2 || n < 0 || n > CELL_LIMIT || what < 0 || what > 7) {
            return NONE;
        }
        paper.search(goal, n);
        return paper.found(what);
    }

    /** A VIEW is dark or light: what it was. */
    public int view(int axis, int u, int v, int dark) {
        if (axis < 0 || axis > 2 || !isPlace(u) || !isPlace(v) || dark < 0 || dark > 1) {
            return refuse(CAN_NOT_BE);
        }
        return accept(held.changeDark(axis, u, v, dark));
    }

    /** What the VIEWS tell of the MOST and the LEAST. */
    public int views(int what) {
        switch (what) {
            case 0:
                return shadows.most();
            case 1:
                return shadows.canBe() ? 1 : 0;
            case 2:
                return shadows.mostPieces();
            case 3:
                return shadows.least();
            default:
                return NONE;
        }
    }

    /** On how many places, at most, a CELL can stand that shows no red outside. */
    public int anew(int sides) {
        return sides < 0 || sides > SIDES_LIMIT ? NONE : vastBox.placedAnew(sides);
    }

    /** A WIRE: barred, whether there is one, its CELLS. */
    public int wire(int i) {
        if (i == -2) {
            return paths.isBarred() ? 1 : 0;
        }
        return i < NONE ? NONE : paths.wireCell(i);
    }

    /** A SCREW: how many there are. */
    public int screw(int axis, int u, int v, int end, int deep) {
        if (!held.canPoke(axis, u, v, end, deep)) {
            return refuse(CAN_NOT_BE);
        }
        if (held.screws.isFull()) {
            return refuse(NO_ROOM);
        }
        held.screws.add(axis, u, v, end, deep, 0);
        return accept(held.screws.many());
    }

    /** SCREWS are none then: how many there were. */
    public int unscrew() {
        return held.screws.clear();
    }

    /** Pairs of SCREWS that MEET, the most that never do, which. */
    public int meet(int what) {
        switch (what) {
            case 0:
                return picks.meetings();
            case 1:
                return Integer.bitCount(picks.apart());
            case 2:
                return picks.apart();
            default:
                return NONE;
        }
    }

    /** A COUNT is told: what it was. */
    public int told(int way, int place, int many) {
        if (way < 0 || way > 1 || !isPlace(place) || many < 0 || many > SIZE_LIMIT) {
            return refuse(CAN_NOT_BE);
        }
        return accept(held.changeCount(way, place, many));
    }

    /** In how many ways HOLES fit the COUNTS; the first one's sets of y. */
    public int fits(int x) {
        if (x < NONE || x >= held.size(0)) {
            return NONE;
        }
        int ways = picks.ways();
        if (x == NONE) {
            return ways;
        }
        return ways == 0 ? NONE : picks.firstSet(x);
    }

    /** ANTS: how many STEPS, the CELLS of the first way. */
    public int ant(int from, int to, int what) {
        if (!held.hasCell(from) || !held.hasCell(to) || what < NONE) {
            return NONE;
        }
        int steps = paths.measure(from, to);
        if (what == NONE || steps == NONE || what > steps) {
            return what == NONE ? steps : NONE;
        }
        return paths.cellOnWay(from, what);
    }

    /** A FEAST is kept as the latest: how many CELLS are LEFT then. */
    public int feast(int seed, int n) {
        if (seed < 0 || seed > SEED_LIMIT || n < 0 || n > Paper.FEAST_LIMIT) {
            return refuse(CAN_NOT_BE);
        }
        return accept(paper.drawHoles(seed, n));
    }

    /** Behind the i-th HOLE of the latest FEAST how many CELLS are LEFT. */
    public int drawn(int i) {
        return paper.leftBehind(i);
    }

    /** IMAGE k is kept. */
    public int image(int k) {
        if (k < 0 || k > 1) {
            return refuse(CAN_NOT_BE);
        }
        imageOf(k).keep(held);
        return accept(0);
    }

    /** BACK to IMAGE k. */
    public int back(int k) {
        if (k < 0 || k > 1) {
            return refuse(CAN_NOT_BE);
        }
        if (!imageOf(k).isKept()) {
            return refuse(NOT_THERE);
        }
        held.copyFrom(imageOf(k));
        cheese.renew();
        return accept(0);
    }

    /** What stands, in numbers. */
    public int count(int what) {
        int refusal = what - 8;
        if (what >= 8 && refusal < refusals.length) {
            return refusals[refusal];
        }
        switch (what) {
            case 0:
            case 1:
            case 2:
                return held.size(what);
            case 3:
                return held.holes.many();
            case 4:
                return held.lawsMany();
            case 5:
                return held.rows.many();
            case 6:
                return held.screws.many();
            case 7:
                return reader.length();
            case 13:
                return held.forcedLaw();
            case 14:
                return held.day();
            default:
                return NONE;
        }
    }

    /** What the latest call that can be REFUSED was REFUSED by, or 0. */
    public int status() {
        return latest;
    }

    private int accept(int answer) {
        latest = 0;
        return answer;
    }

    /** There is no -4, so the numbers of the refusals close up behind -3. */
    private int refuse(int by) {
        int place = by >= -3 ? -1 - by : -2 - by;
        if (place >= 0 && place < refusals.length) {
            refusals[place]++;
        }
        latest = by;
        return by;
    }

    /** Six bytes of the TAPE become a HOLE, if they can. */
    private boolean pokeFromTape(int at) {
        int axis = reader.byteAt(at);
        int u = reader.byteAt(at + 1);
        int v = reader.byteAt(at + 2);
        int end = reader.byteAt(at + 3);
        int deep = reader.byteAt(at + 4);
        int leaning = reader.byteAt(at + 5) - 1;
        if (!held.canPoke(axis, u, v, end, deep) || leaning < -1 || leaning > 1 || held.holes.isFull()) {
            return false;
        }
        held.holes.add(axis, u, v, end, deep, leaning);
        return true;
    }

    private Held imageOf(int k) {
        return k == 0 ? firstImage : secondImage;
    }

    private static boolean isVast(int size) {
        return size >= 1 && size <= VAST_LIMIT;
    }

    private static boolean isWax(int sides, int many) {
        return sides >= 0 && sides <= SIDES_LIMIT && many >= 0 && many <= RED_LIMIT;
    }

    private static boolean isPlace(int place) {
        return place >= 0 && place < SIZE_LIMIT;
    }

    /** HOLES, counted ROWS or SCREWS in their order: AXIS, PLACES and three numbers more of each. */
    private static final class Rods {
        static final int WIDTH = 6;
        static final int AXIS = 0;
        static final int U = 1;
        static final int V = 2;
        static final int END = 3;
        /** A ROW has neither END nor DEEP: its number stands where a HOLE has its END. */
        static final int COUNTED = 3;
        static final int DEEP = 4;
        static final int LEANING = 5;

        private final int limit;
        private final int[] numbers;
        private int many;

        Rods(int limit) {
            this.limit = limit < 0 ? 0 : Math.min(limit, CELL_LIMIT);
            this.numbers = new int[this.limit * WIDTH];
        }

        int many() {
            return many;
        }

        boolean isFull() {
            return many >= limit;
        }

        int number(int rod, int what) {
            int at = rod * WIDTH + what;
            boolean there = rod >= 0 && rod < many && what >= 0 && what < WIDTH;
            return there && at >= 0 && at < numbers.length ? numbers[at] : 0;
        }

        void add(int axis, int u, int v, int third, int fourth, int fifth) {
            if (isFull()) {
                return;
            }
            int rod = many;
            many++;
            put(rod, AXIS, axis);
            put(rod, U, u);
            put(rod, V, v);
            put(rod, 3, third);
            put(rod, 4, fourth);
            put(rod, 5, fifth);
        }

        void drop(int rod) {
            if (rod < 0 || rod >= many) {
                return;
            }
            for (int to = rod; to + 1 < many; to++) {
                move(to + 1, to);
            }
            many--;
        }

        int clear() {
            int before = many;
            many = 0;
            return before;
        }

        /** Those that begin beyond the BOX go. */
        void keepWithin(Held box) {
            int kept = 0;
            for (int rod = 0; rod < many; rod++) {
                if (box.hasPlaces(number(rod, AXIS), number(rod, U), number(rod, V))) {
                    move(rod, kept);
                    kept++;
                }
            }
            many = kept;
        }

        void copyFrom(Rods other) {
            many = Math.min(other.many, limit);
            for (int rod = 0; rod < many; rod++) {
                for (int what = 0; what < WIDTH; what++) {
                    put(rod, what, other.number(rod, what));
                }
            }
        }

        /** Where on an axis that is not its own a rod stands. */
        int placeOn(int rod, int axis) {
            int first = number(rod, AXIS) == 0 ? 1 : 0;
            return number(rod, axis == first ? U : V);
        }

        private void move(int from, int to) {
            for (int what = 0; what < WIDTH; what++) {
                put(to, what, number(from, what));
            }
        }

        private void put(int rod, int what, int value) {
            int at = rod * WIDTH + what;
            if (at >= 0 && at < numbers.length) {
                numbers[at] = value;
            }
        }
    }

    /** All that an IMAGE keeps, and the shape of the BOX. */
    private static final class Held {
        private static final int FIRST_SIZE = 5;

        final Rods holes = new Rods(16);
        final Rods rows = new Rods(8);
        final Rods screws = new Rods(8);
        private final int[] dark = new int[3 * SIZE_LIMIT * SIZE_LIMIT];
        private final int[] counts = new int[2 * SIZE_LIMIT];
        private final Law[] laws = new Law[6];
        private int lawsMany;
        private int forced = NONE;
        private int sizeX = FIRST_SIZE;
        private int sizeY = FIRST_SIZE;
        private int sizeZ = FIRST_SIZE;
        private int day;
        private boolean kept;

        void keep(Held other) {
            copyFrom(other);
            kept = true;
        }

        boolean isKept() {
            return kept;
        }

        void copyFrom(Held other) {
            holes.copyFrom(other.holes);
            rows.copyFrom(other.rows);
            screws.copyFrom(other.screws);
            for (int at = 0; at < dark.length && at < other.dark.length; at++) {
                dark[at] = other.dark[at];
            }
            for (int at = 0; at < counts.length && at < other.counts.length; at++) {
                counts[at] = other.counts[at];
            }
            for (int at = 0; at < laws.length && at < other.laws.length; at++) {
                laws[at] = other.laws[at];
            }
            lawsMany = other.lawsMany;
            forced = other.forced;
            sizeX = other.sizeX;
            sizeY = other.sizeY;
            sizeZ = other.sizeZ;
            day = other.day;
        }

        int size(int axis) {
            return axis == 0 ? sizeX : axis == 1 ? sizeY : sizeZ;
        }

        int sizeOfU(int axis) {
            return axis == 0 ? sizeY : sizeX;
        }

        int sizeOfV(int axis) {
            return axis == 2 ? sizeY : sizeZ;
        }

        int changeSize(int axis, int value) {
            int before = size(axis);
            if (axis == 0) {
                sizeX = value;
            } else if (axis == 1) {
                sizeY = value;
            } else {
                sizeZ = value;
            }
            holes.keepWithin(this);
            rows.keepWithin(this);
            screws.keepWithin(this);
            return before;
        }

        int day() {
            return day;
        }

        int changeDay(int value) {
            int before = day;
            day = value;
            return before;
        }

        boolean hasPlaces(int axis, int u, int v) {
            return axis >= 0 && axis <= 2 && u >= 0 && u < sizeOfU(axis) && v >= 0 && v < sizeOfV(axis);
        }

        boolean canPoke(int axis, int u, int v, int end, int deep) {
            return hasPlaces(axis, u, v) && end >= 0 && end <= 1 && deep >= 1 && deep <= SIZE_LIMIT;
        }

        boolean hasCell(int cell) {
            return cell >= 0 && cell < CELL_LIMIT
                    && cell % 6 < sizeX && cell / 6 % 6 < sizeY && cell / 36 < sizeZ;
        }

        /** The CELL at PLACES of an AXIS that is so far along it, or NONE. */
        int cellOn(int axis, int along, int u, int v) {
            int x = axis == 0 ? along : u;
            int y = axis == 0 ? u : axis == 1 ? along : v;
            int z = axis == 2 ? along : v;
            boolean inside = x >= 0 && x < sizeX && y >= 0 && y < sizeY && z >= 0 && z < sizeZ;
            return inside && axis >= 0 && axis <= 2 ? 36 * z + 6 * y + x : NONE;
        }

        /** The k-th CELL that a HOLE or a SCREW goes through, or NONE. */
        int cellOf(Rods rods, int rod, int k) {
            if (k < 0 || k >= rods.number(rod, Rods.DEEP)) {
                return NONE;
            }
            int axis = rods.number(rod, Rods.AXIS);
            int along = rods.number(rod, Rods.END) == 0 ? k : size(axis) - 1 - k;
            int u = rods.number(rod, Rods.U) + k * rods.number(rod, Rods.LEANING);
            return cellOn(axis, along, u, rods.number(rod, Rods.V));
        }

        int lengthOf(Rods rods, int rod) {
            int length = 0;
            for (int k = 0; k < SIZE_LIMIT; k++) {
                if (cellOf(rods, rod, k) != NONE) {
                    length++;
                }
            }
            return length;
        }

        /** The SIDES of the BOX, as bits, at which a CELL lies. */
        int sidesOf(int cell) {
            return endsOn(cell % 6, sizeX) | endsOn(cell / 6 % 6, sizeY) << 2 | endsOn(cell / 36, sizeZ) << 4;
        }

        private static int endsOn(int place, int size) {
            return (place == 0 ? 1 : 0) | (place == size - 1 ? 2 : 0);
        }

        boolean isDark(int axis, int u, int v) {
            int at = 36 * axis + 6 * u + v;
            return at >= 0 && at < dark.length && dark[at] == 1;
        }

        int changeDark(int axis, int u, int v, int value) {
            int at = 36 * axis + 6 * u + v;
            if (at < 0 || at >= dark.length) {
                return NONE;
            }
            int before = dark[at];
            dark[at] = value;
            return before;
        }

        int countTold(int way, int place) {
            int at = SIZE_LIMIT * way + place;
            return at >= 0 && at < counts.length ? counts[at] : 0;
        }

        int changeCount(int way, int place, int many) {
            int at = SIZE_LIMIT * way + place;
            if (at < 0 || at >= counts.length) {
                return NONE;
            }
            int before = counts[at];
            counts[at] = many;
            return before;
        }

        int lawsMany() {
            return lawsMany;
        }

        boolean hasAllLaws() {
            return lawsMany >= laws.length;
        }

        boolean hasLaw(int law) {
            return law >= 0 && law < lawsMany;
        }

        int addLaw(Law law) {
            if (lawsMany < 0 || lawsMany >= laws.length) {
                return NONE;
            }
            laws[lawsMany] = law;
            lawsMany++;
            return lawsMany - 1;
        }

        int forcedLaw() {
            return forced;
        }

        int changeForced(int law) {
            int before = forced;
            forced = law;
            return before;
        }

        /** The LAW in FORCE, or null. */
        Law lawInForce() {
            return forced >= 0 && forced < lawsMany && forced < laws.length ? laws[forced] : null;
        }
    }

    /** A set of CELLS: for each z a long, in it bit 6 y and x, so that whole layers are moved at once. */
    private static final class Cells {
        private static final long LAYER = 0xFFFFFFFFFL;
        private static final long FIRST_X = 0x41041041L;
        private static final long LAST_X = 0x820820820L;
        private static final long FIRST_Y = 0x3FL;

        private final long[] layers = new long[SIZE_LIMIT];

        void clear() {
            for (int z = 0; z < layers.length; z++) {
                layers[z] = 0;
            }
        }

        void fill(int sizeX, int sizeY, int sizeZ) {
            long row = (1L << sizeX) - 1;
            long layer = 0;
            for (int y = 0; y < sizeY && y < SIZE_LIMIT; y++) {
                layer |= row << 6 * y;
            }
            for (int z = 0; z < layers.length; z++) {
                layers[z] = z < sizeZ ? layer : 0;
            }
        }

        void copyFrom(Cells other) {
            for (int z = 0; z < layers.length && z < other.layers.length; z++) {
                layers[z] = other.layers[z];
            }
        }

        boolean has(int cell) {
            return cell >= 0 && cell < CELL_LIMIT && (layer(cell / 36) >>> cell % 36 & 1L) != 0;
        }

        void put(int cell) {
            int z = cell / 36;
            if (cell >= 0 && z < layers.length) {
                layers[z] |= 1L << cell % 36;
            }
        }

        void drop(int cell) {
            int z = cell / 36;
            if (cell >= 0 && z < layers.length) {
                layers[z] &= ~(1L << cell % 36);
            }
        }

        /** A HOLE right through at PLACES of an AXIS. */
        void dropLine(int axis, int u, int v) {
            if (axis == 2) {
                long column = 1L << 6 * v + u;
                for (int z = 0; z < layers.length; z++) {
                    layers[z] &= ~column;
                }
            } else if (v >= 0 && v < layers.length) {
                layers[v] &= ~(axis == 0 ? FIRST_Y << 6 * u : FIRST_X << u);
            }
        }

        void dropAll(Cells others) {
            for (int z = 0; z < layers.length && z < others.layers.length; z++) {
                layers[z] &= ~others.layers[z];
            }
        }

        boolean isEmpty() {
            long all = 0;
            for (int z = 0; z < layers.length; z++) {
                all |= layers[z];
            }
            return all == 0;
        }

        int many() {
            int many = 0;
            for (int z = 0; z < layers.length; z++) {
                many += Long.bitCount(layers[z]);
            }
            return many;
        }

        int lowest() {
            for (int z = 0; z < layers.length; z++) {
                long layer = layers[z];
                if (layer != 0) {
                    return 36 * z + Long.bitCount((layer & -layer) - 1);
                }
            }
            return NONE;
        }

        /** Those alone stay of which all six neighbours were in the set. */
        void keepInner() {
            long below = 0;
            for (int z = 0; z < layers.length; z++) {
                long here = layers[z];
                layers[z] = here & fromLowerX(here) & fromHigherX(here) & fromLowerY(here) & fromHigherY(here)
                        & below & layer(z + 1);
                below = here;
            }
        }

        /** How many sides CELLS of the set have in common with CELLS of another set. */
        int sidesTo(Cells other) {
            int sides = 0;
            for (int z = 0; z < layers.length; z++) {
                long here = layers[z];
                long there = other.layer(z);
                sides += Long.bitCount(fromLowerX(here) & there) + Long.bitCount(fromHigherX(here) & there)
                        + Long.bitCount(fromLowerY(here) & there) + Long.bitCount(fromHigherY(here) & there)
                        + Long.bitCount(here & other.layer(z - 1)) + Long.bitCount(here & other.layer(z + 1));
            }
            return sides;
        }

        /** The PIECE of the lowest CELL goes over from this set into another one. */
        void moveLowestPiece(Cells piece) {
            piece.clear();
            piece.put(lowest());
            boolean grew = true;
            for (int step = 0; step < CELL_LIMIT && grew; step++) {
                grew = false;
                for (int z = 0; z < layers.length; z++) {
                    long here = piece.layer(z);
                    long around = fromLowerX(here) | fromHigherX(here) | fromLowerY(here) | fromHigherY(here)
                            | piece.layer(z - 1) | piece.layer(z + 1);
                    grew |= piece.addTo(z, around & layers[z]);
                }
            }
            dropAll(piece);
        }

        /** The sets given are used as paper. */
        int pieceCount(Cells rest, Cells piece) {
            rest.copyFrom(this);
            int found = 0;
            while (found < CELL_LIMIT && !rest.isEmpty()) {
                rest.moveLowestPiece(piece);
                found++;
            }
            return found;
        }

        /** The neighbour of a CELL, lower CELLS first (way 0 .. 5), or NONE. */
        static int neighbour(int cell, int way) {
            int axis = way < 3 ? 2 - way : way - 3;
            int step = axis == 0 ? 1 : axis == 1 ? 6 : 36;
            int place = axis == 0 ? cell % 6 : axis == 1 ? cell / 6 % 6 : cell / 36;
            if (way < 3) {
                return place > 0 ? cell - step : NONE;
            }
            return place < SIZE_LIMIT - 1 ? cell + step : NONE;
        }

        /** Whether any of the CELLS is new to the layer. */
        private boolean addTo(int z, long cells) {
            if (z < 0 || z >= layers.length || (cells & ~layers[z]) == 0) {
                return false;
            }
            layers[z] |= cells;
            return true;
        }

        private long layer(int z) {
            return z >= 0 && z < layers.length ? layers[z] : 0;
        }

        private static long fromLowerX(long layer) {
            return (layer & ~LAST_X) << 1;
        }

        private static long fromHigherX(long layer) {
            return (layer & ~FIRST_X) >>> 1;
        }

        private static long fromLowerY(long layer) {
            return layer << 6 & LAYER;
        }

        private static long fromHigherY(long layer) {
            return layer >>> 6;
        }
    }

    /** A LAW as steps for a stack; what it is asked of a CELL is written into it first. */
    private static final class Law {
        static final int WEIGHS = 0;
        static final int TAKES = 1;
        static final int SHUTS = 2;

        static final int NUMBER = 0;
        static final int X = 1;
        static final int Y = 2;
        static final int Z = 3;
        static final int HOLES = 4;
        static final int RIND = 5;
        static final int DAY = 6;
        static final int PLUS = 7;
        static final int MINUS = 8;
        static final int TIMES = 9;
        static final int DIVIDED = 10;
        static final int LESS = 11;
        static final int MORE = 12;
        static final int SAME = 13;
        static final int NOT = 14;
        /** Leaves out what stands behind "and", "or", where it can't matter any more. */
        static final int AND = 15;
        static final int OR = 16;

        /** Of a clause: its kind, where its SUM, its TEST begin, where it ends. */
        static final int CLAUSE_WIDTH = 4;

        private static final long SUM_LIMIT = 1000000000L;
        /** Farther out than any SUM, and than any product of two. */
        private static final long BROKEN = 1L << 62;
        private static final long WEIGHT_LIMIT = 99;
        private static final int STACK_LIMIT = 64;

        private final int[] steps;
        private final int[] clauses;
        private final int[] words = new int[DAY + 1];
        private final long[] stack = new long[STACK_LIMIT];
        private boolean taken;
        private boolean shut;
        private int weight;

        /** The arrays are the LAW's own from then on. */
        Law(int[] steps, int[] clauses) {
            this.steps = steps;
            this.clauses = clauses;
        }

        /** Asks all clauses once; the three answers stay until it is asked again. */
        void askOf(Held held, int cell, int holes) {
            setWords(held, cell, holes);
            taken = false;
            shut = false;
            long told = 1;
            for (int clause = 0; clause * CLAUSE_WIDTH < clauses.length; clause++) {
                long outcome = outcomeOf(clause);
                int kind = clausePart(clause, 0);
                if (outcome != BROKEN) {
                    taken |= kind == TAKES;
                    shut |= kind == SHUTS;
                    told = kind == WEIGHS ? outcome : told;
                }
            }
            weight = (int) Math.max(1, Math.min(WEIGHT_LIMIT, told));
        }

        boolean isTaken() {
            return taken;
        }

        boolean isShut() {
            return shut;
        }

        /** What the last "weighs" that HOLDS tells. */
        int weight() {
            return weight;
        }

        /** BROKEN, if the clause does not HOLD; else its SUM, or 1 where it has none. */
        private long outcomeOf(int clause) {
            int sum = clausePart(clause, 1);
            int test = clausePart(clause, 2);
            int to = clausePart(clause, 3);
            if (test < to && run(test, to) != 1) {
                return BROKEN;
            }
            return sum < test ? run(sum, test) : 1;
        }

        private void setWords(Held held, int cell, int holes) {
            setWord(X, cell % 6);
            setWord(Y, cell / 6 % 6);
            setWord(Z, cell / 36);
            setWord(HOLES, holes);
            setWord(RIND, Integer.bitCount(held.sidesOf(cell)));
            setWord(DAY, held.day());
        }

        private void setWord(int kind, int value) {
            if (kind >= 0 && kind < words.length) {
                words[kind] = value;
            }
        }

        private int clausePart(int clause, int what) {
            int at = clause * CLAUSE_WIDTH + what;
            return at >= 0 && at < clauses.length ? clauses[at] : 0;
        }

        /** The value of steps, or BROKEN. */
        private long run(int from, int to) {
            int high = 0;
            int onward = from;
            for (int at = Math.max(from, 0); at < to && at < steps.length; at++) {
                if (at < onward) {
                    continue;
                }
                int kind = steps[at] & 255;
                if (kind <= DAY) {
                    if (high < 0 || high >= stack.length) {
                        return BROKEN;
                    }
                    stack[high] = kind == NUMBER ? steps[at] >> 8 : wordOf(kind);
                    high++;
                } else if (kind >= NOT) {
                    if (high < 1 || high > stack.length) {
                        return BROKEN;
                    }
                    long top = stack[high - 1];
                    if (kind == NOT) {
                        stack[high - 1] = 1 - top;
                    } else if (top == (kind == OR ? 1 : 0)) {
                        onward = steps[at] >> 8;
                    } else {
                        high--;
                    }
                } else {
                    if (high < 2 || high > stack.length) {
                        return BROKEN;
                    }
                    long value = joined(kind, stack[high - 2], stack[high - 1]);
                    if (value < -SUM_LIMIT || value > SUM_LIMIT) {
                        return BROKEN;
                    }
                    stack[high - 2] = value;
                    high--;
                }
            }
            return high == 1 && stack.length > 0 ? stack[0] : BROKEN;
        }

        private int wordOf(int kind) {
            return kind >= 0 && kind < words.length ? words[kind] : 0;
        }

        private static long joined(int kind, long a, long b) {
            switch (kind) {
                case PLUS:
                    return a + b;
                case MINUS:
                    return a - b;
                case TIMES:
                    return a * b;
                case DIVIDED:
                    return b == 0 ? BROKEN : a / b;
                case LESS:
                    return a < b ? 1 : 0;
                case MORE:
                    return a > b ? 1 : 0;
                default:
                    return a == b ? 1 : 0;
            }
        }
    }

    /** The TAPE, and how a TEXT on it is read as a LAW. */
    private static final class Reader {
        private static final int TAPE_LIMIT = 400;
        private static final int CLAUSE_LIMIT = 12;
        private static final int PART_LIMIT = 50;
        private static final int BRACKET_LIMIT = 8;
        private static final int NUMBER_LIMIT = 1000;

        private static final int AT_END = 0;
        private static final int WORD = 1;
        private static final int DIGITS = 2;
        private static final int SIGN = 3;

        private final byte[] tape = new byte[TAPE_LIMIT];
        private final int[] steps = new int[TAPE_LIMIT];
        private final int[] clauses = new int[CLAUSE_LIMIT * Law.CLAUSE_WIDTH];
        private int length;
        private int stepsMany;
        private int clausesMany;
        private int partsMany;
        private int fault = NONE;
        private int tokenKind;
        private int tokenFrom;
        private int tokenTo;

        int length() {
            return length;
        }

        int faultPlace() {
            return fault;
        }

        int byteAt(int at) {
            return at >= 0 && at < length && at < tape.length ? tape[at] & 255 : NONE;
        }

        void clear() {
            length = 0;
        }

        int cut(int n) {
            if (n < 0 || n > length) {
                return NONE;
            }
            length = n;
            return n;
        }

        int append(int a, int b, int c, int d, int e) {
            if (length + 20 > TAPE_LIMIT) {
                return NONE;
            }
            appendFour(a);
            appendFour(b);
            appendFour(c);
            appendFour(d);
            appendFour(e);
            return length;
        }

        private void appendFour(int number) {
            for (int shift = 24; shift >= 0; shift -= 8) {
                if (length >= 0 && length < tape.length) {
                    tape[length] = (byte) (number >> shift);
                    length++;
                }
            }
        }

        /** The LAW that the TAPE tells, or null; FAULT is where its reading stopped. */
        Law readLaw() {
            stepsMany = 0;
            clausesMany = 0;
            partsMany = 0;
            tokenTo = 0;
            nextToken();
            boolean more = true;
            boolean whole = false;
            for (int clause = 0; clause < CLAUSE_LIMIT && more; clause++) {
                boolean good = readClause();
                whole = good && tokenKind == AT_END;
                more = good && passSign(';');
            }
            fault = whole ? NONE : tokenFrom;
            return whole ? lawAsRead() : null;
        }

        private Law lawAsRead() {
            int[] ownSteps = new int[Math.max(0, Math.min(stepsMany, TAPE_LIMIT))];
            for (int at = 0; at < ownSteps.length && at < steps.length; at++) {
                ownSteps[at] = steps[at];
            }
            int[] ownClauses = new int[Math.max(0, Math.min(clausesMany, CLAUSE_LIMIT)) * Law.CLAUSE_WIDTH];
            for (int at = 0; at < ownClauses.length && at < clauses.length; at++) {
                ownClauses[at] = clauses[at];
            }
            return new Law(ownSteps, ownClauses);
        }

        /** The readers stop at the first TOKEN that can't go on, so that it is the FAULT. */
        private boolean readClause() {
            int from = stepsMany;
            int kind = isWord("weighs") ? Law.WEIGHS : isWord("takes") ? Law.TAKES : isWord("shuts") ? Law.SHUTS : NONE;
            if (kind == NONE) {
                return false;
            }
            nextToken();
            if (kind == Law.WEIGHS && !readSum(0)) {
                return false;
            }
            int test = stepsMany;
            if (isWord("if")) {
                nextToken();
                if (!readTest(0)) {
                    return false;
                }
            }
            keepClause(kind, from, test);
            return true;
        }

        private void keepClause(int kind, int from, int test) {
            int at = clausesMany * Law.CLAUSE_WIDTH;
            if (at >= 0 && at + 3 < clauses.length) {
                clauses[at] = kind;
                clauses[at + 1] = from;
                clauses[at + 2] = test;
                clauses[at + 3] = stepsMany;
                clausesMany++;
            }
        }

        private boolean readTest(int depth) {
            boolean good = readBoth(depth);
            int jumps = 0;
            for (int more = 0; more < TAPE_LIMIT && good && isWord("or"); more++) {
                jumps = addStep(Law.OR, jumps);
                nextToken();
                good = readBoth(depth);
            }
            aimJumps(jumps);
            return good;
        }

        private boolean readBoth(int depth) {
            boolean good = readPlain(depth);
            int jumps = 0;
            for (int more = 0; more < TAPE_LIMIT && good && isWord("and"); more++) {
                jumps = addStep(Law.AND, jumps);
                nextToken();
                good = readPlain(depth);
            }
            aimJumps(jumps);
            return good;
        }

        /** A row of "not" is counted, not gone into, as a TEXT has room for a hundred. */
        private boolean readPlain(int depth) {
            boolean turned = false;
            for (int more = 0; more < TAPE_LIMIT && isWord("not"); more++) {
                turned = !turned;
                nextToken();
            }
            boolean good = isSign('(') ? readBracket(depth + 1) : readComparison(depth);
            if (good && turned) {
                addStep(Law.NOT, 0);
            }
            return good;
        }

        private boolean readBracket(int depth) {
            if (depth > BRACKET_LIMIT) {
                return false;
            }
            nextToken();
            return readTest(depth) && passSign(')');
        }

        private boolean readComparison(int depth) {
            if (!readSum(depth)) {
                return false;
            }
            int kind = isSign('<') ? Law.LESS : isSign('>') ? Law.MORE : isSign('=') ? Law.SAME : NONE;
            if (kind == NONE) {
                return false;
            }
            nextToken();
            boolean good = readSum(depth);
            addStep(kind, 0);
            return good;
        }

        private boolean readSum(int depth) {
            boolean good = readTerm(depth);
            for (int more = 0; more < TAPE_LIMIT && good && (isSign('+') || isSign('-')); more++) {
                int kind = isSign('+') ? Law.PLUS : Law.MINUS;
                nextToken();
                good = readTerm(depth);
                addStep(kind, 0);
            }
            return good;
        }

        private boolean readTerm(int depth) {
            boolean good = readPart(depth);
            for (int more = 0; more < TAPE_LIMIT && good && (isSign('*') || isSign('/')); more++) {
                int kind = isSign('*') ? Law.TIMES : Law.DIVIDED;
                nextToken();
                good = readPart(depth);
                addStep(kind, 0);
            }
            return good;
        }

        private boolean readPart(int depth) {
            if (isSign('[')) {
                if (depth >= BRACKET_LIMIT) {
                    return false;
                }
                nextToken();
                return readSum(depth + 1) && passSign(']');
            }
            int kind = partKind();
            int number = kind == Law.NUMBER ? tokenNumber() : 0;
            if (kind == NONE || number > NUMBER_LIMIT || partsMany >= PART_LIMIT) {
                return false;
            }
            partsMany++;
            addStep(kind, number);
            nextToken();
            return true;
        }

        private int partKind() {
            if (tokenKind == DIGITS) {
                return Law.NUMBER;
            }
            if (isWord("x")) {
                return Law.X;
            }
            if (isWord("y")) {
                return Law.Y;
            }
            if (isWord("z")) {
                return Law.Z;
            }
            if (isWord("holes")) {
                return Law.HOLES;
            }
            if (isWord("rind")) {
                return Law.RIND;
            }
            return isWord("day") ? Law.DAY : NONE;
        }

        /** Stops growing above the limit, for a row of digits can be as long as the TAPE. */
        private int tokenNumber() {
            int number = 0;
            for (int at = tokenFrom; at < tokenTo && number <= NUMBER_LIMIT; at++) {
                number = number * 10 + byteAt(at) - '0';
            }
            return number;
        }

        /** A step; answers how many there are, which names it to aimJumps. */
        private int addStep(int kind, int operand) {
            if (stepsMany >= 0 && stepsMany < steps.length) {
                steps[stepsMany] = kind | operand << 8;
                stepsMany++;
            }
            return stepsMany;
        }

        /** Until it is known where they go, each jump tells the one ahead of it. */
        private void aimJumps(int last) {
            int jump = last;
            for (int more = 0; more < TAPE_LIMIT && jump > 0 && jump <= steps.length; more++) {
                int before = steps[jump - 1] >> 8;
                steps[jump - 1] = steps[jump - 1] & 255 | stepsMany << 8;
                jump = before;
            }
        }

        private void nextToken() {
            int at = tokenTo;
            while (at < length && byteAt(at) == ' ') {
                at++;
            }
            tokenFrom = at;
            tokenKind = kindOf(byteAt(at));
            at++;
            while ((tokenKind == WORD || tokenKind == DIGITS) && at < length && kindOf(byteAt(at)) == tokenKind) {
                at++;
            }
            tokenTo = Math.min(at, length);
        }

        private static int kindOf(int sign) {
            if (sign == NONE) {
                return AT_END;
            }
            if (sign >= 'a' && sign <= 'z') {
                return WORD;
            }
            return sign >= '0' && sign <= '9' ? DIGITS : SIGN;
        }

        private boolean isWord(String word) {
            if (tokenKind != WORD || tokenTo - tokenFrom != word.length()) {
                return false;
            }
            for (int i = 0; i < word.length(); i++) {
                if (byteAt(tokenFrom + i) != word.charAt(i)) {
                    return false;
                }
            }
            return true;
        }

        private boolean isSign(char sign) {
            return tokenKind == SIGN && byteAt(tokenFrom) == sign;
        }

        private boolean passSign(char sign) {
            boolean good = isSign(sign);
            if (good) {
                nextToken();
            }
            return good;
        }
    }

    /** What HOLES and the LAW in FORCE make of the CELLS of the BOX: renewed when anything of it changes. */
    private static final class Cheese {
        private final Held held;
        private final int[] through = new int[CELL_LIMIT];
        private final int[] weights = new int[CELL_LIMIT];
        private final Cells box = new Cells();
        private final Cells present = new Cells();
        private final Cells shut = new Cells();
        private final Cells rest = new Cells();
        private final Cells piece = new Cells();

        Cheese(Held held) {
            this.held = held;
            renew();
        }

        void renew() {
            countHoles();
            box.fill(held.size(0), held.size(1), held.size(2));
            present.copyFrom(box);
            shut.clear();
            Law law = held.lawInForce();
            for (int cell = 0; cell < CELL_LIMIT; cell++) {
                if (box.has(cell)) {
                    renewCell(law, cell);
                }
            }
        }

        /** The CELLS that are LEFT: only to be looked at. */
        Cells present() {
            return present;
        }

        /** The CELLS that are SHUT: only to be looked at. */
        Cells shut() {
            return shut;
        }

        int holesAt(int cell) {
            return cell >= 0 && cell < through.length ? through[cell] : 0;
        }

        int weightAt(int cell) {
            return cell >= 0 && cell < weights.length ? weights[cell] : 0;
        }

        int weightOfAll() {
            int weight = 0;
            for (int cell = 0; cell < CELL_LIMIT; cell++) {
                weight += present.has(cell) ? weightAt(cell) : 0;
            }
            return weight;
        }

        int bareSides() {
            rest.copyFrom(box);
            rest.dropAll(present);
            return present.sidesTo(rest);
        }

        int insideOnes() {
            rest.copyFrom(present);
            rest.keepInner();
            return rest.many();
        }

        int leftOnLine(int axis, int u, int v) {
            int found = 0;
            for (int along = 0; along < SIZE_LIMIT; along++) {
                found += present.has(held.cellOn(axis, along, u, v)) ? 1 : 0;
            }
            return found;
        }

        int waxed(int sides, int many) {
            int found = 0;
            for (int cell = 0; cell < CELL_LIMIT; cell++) {
                if (present.has(cell) && Integer.bitCount(held.sidesOf(cell) & sides) == many) {
                    found++;
                }
            }
            return found;
        }

        int pieceCount() {
            return present.pieceCount(rest, piece);
        }

        /** How many CELLS the i-th PIECE has (what 0), its lowest (1), or NONE. */
        int pieceNumber(int i, int what) {
            rest.copyFrom(present);
            for (int number = 0; number < CELL_LIMIT && !rest.isEmpty(); number++) {
                int lowest = rest.lowest();
                rest.moveLowestPiece(piece);
                if (number == i) {
                    return what == 0 ? piece.many() : lowest;
                }
            }
            return NONE;
        }

        private void countHoles() {
            for (int cell = 0; cell < through.length; cell++) {
                through[cell] = 0;
            }
            for (int hole = 0; hole < held.holes.many(); hole++) {
                for (int k = 0; k < SIZE_LIMIT; k++) {
                    int cell = held.cellOf(held.holes, hole, k);
                    if (cell >= 0 && cell < through.length) {
                        through[cell]++;
                    }
                }
            }
        }

        private void renewCell(Law law, int cell) {
            int holes = holesAt(cell);
            int weight = 1;
            boolean gone = holes > 0;
            if (law != null) {
                law.askOf(held, cell, holes);
                weight = law.weight();
                gone |= law.isTaken();
                if (law.isShut()) {
                    shut.put(cell);
                }
            }
            if (gone) {
                present.drop(cell);
            }
            if (cell >= 0 && cell < weights.length) {
                weights[cell] = weight;
            }
        }
    }

    /**
     * HOLES on paper, right through: the FEWEST for an END, and those of a FEAST.
     * "takes" tells on CELLS without a HOLE alone, and of these it is the same with HOLES more elsewhere,
     * so that HOLES on paper are lines taken from what is LEFT.
     */
    private static final class Paper {
        static final int FEAST_LIMIT = 60;
        private static final int LINE_LIMIT = 3 * SIZE_LIMIT * SIZE_LIMIT;
        private static final int NOT_BY_TWO = 3;

        private final Held held;
        private final Cheese cheese;
        private final int[] lines = new int[LINE_LIMIT];
        private final int[] behind = new int[FEAST_LIMIT];
        private final Cells byOne = new Cells();
        private final Cells byTwo = new Cells();
        private final Cells rest = new Cells();
        private final Cells piece = new Cells();
        private int linesMany;
        private int behindMany;
        private int seed;
        private int fewest;
        private int ways;
        private int first;
        private int second;

        Paper(Held held, Cheese cheese) {
            this.held = held;
            this.cheese = cheese;
        }

        /** Looks for the FEWEST HOLES more by which an END is come to. */
        void search(int goal, int n) {
            listLines();
            fewest = NOT_BY_TWO;
            ways = 0;
            first = NONE;
            second = NONE;
            if (isCome(cheese.present(), goal, n)) {
                fewest = 0;
                ways = 1;
                return;
            }
            searchByOne(goal, n);
            if (ways == 0) {
                searchByTwo(goal, n);
            }
        }

        /** A number of what the search found, or NONE. */
        int found(int what) {
            if (what == 0) {
                return fewest == NOT_BY_TWO ? NONE : fewest;
            }
            if (what == 1) {
                return ways;
            }
            int line = what <= 4 ? first : second;
            int number = (what - 2) % 3;
            if (line < 0) {
                return NONE;
            }
            return number == 0 ? line / 36 : number == 1 ? line / 6 % 6 : line % 6;
        }

        /** A FEAST: how many CELLS are LEFT then. */
        int drawHoles(int start, int n) {
            seed = start;
            behindMany = 0;
            byOne.copyFrom(cheese.present());
            for (int hole = 0; hole < n && hole < behind.length; hole++) {
                int axis = draw(3);
                int u = draw(held.sizeOfU(axis));
                int v = draw(held.sizeOfV(axis));
                byOne.dropLine(axis, u, v);
                behind[hole] = byOne.many();
                behindMany++;
            }
            return byOne.many();
        }

        int leftBehind(int i) {
            return i >= 0 && i < behindMany && i < behind.length ? behind[i] : NONE;
        }

        private int draw(int m) {
            seed = (seed * 1103 + 12345) % 1000003;
            return m > 0 ? seed % m : 0;
        }

        /** A line as 36 AXIS and 6 u and v. */
        private void listLines() {
            linesMany = 0;
            for (int line = 0; line < LINE_LIMIT; line++) {
                if (held.hasPlaces(line / 36, line / 6 % 6, line % 6) && linesMany < lines.length) {
                    lines[linesMany] = line;
                    linesMany++;
                }
            }
        }

        private int lineAt(int i) {
            return i >= 0 && i < linesMany && i < lines.length ? lines[i] : 0;
        }

        private static void take(Cells cells, int line) {
            cells.dropLine(line / 36, line / 6 % 6, line % 6);
        }

        private void searchByOne(int goal, int n) {
            for (int i = 0; i < linesMany; i++) {
                byOne.copyFrom(cheese.present());
                take(byOne, lineAt(i));
                if (isCome(byOne, goal, n)) {
                    note(1, lineAt(i), NONE);
                }
            }
        }

        private void searchByTwo(int goal, int n) {
            for (int i = 0; i < linesMany; i++) {
                byOne.copyFrom(cheese.present());
                take(byOne, lineAt(i));
                for (int j = i + 1; j < linesMany; j++) {
                    byTwo.copyFrom(byOne);
                    take(byTwo, lineAt(j));
                    if (isCome(byTwo, goal, n)) {
                        note(2, lineAt(i), lineAt(j));
                    }
                }
            }
        }

        private void note(int holes, int line, int other) {
            if (ways == 0) {
                fewest = holes;
                first = line;
                second = other;
            }
            ways++;
        }

        private boolean isCome(Cells cells, int goal, int n) {
            if (goal == 0) {
                return isNear(cells, n);
            }
            return goal == 1 ? cells.pieceCount(rest, piece) >= n : cells.many() == n;
        }

        /** Each time those go that are at AIR, so that those farther than n STEPS stay. */
        private boolean isNear(Cells cells, int n) {
            rest.copyFrom(cells);
            for (int step = 0; step < n && !rest.isEmpty(); step++) {
                rest.keepInner();
            }
            return rest.isEmpty();
        }
    }

    /** What VIEWS along the three AXES tell. */
    private static final class Views {
        private static final int LEAST_SIZE = 3;
        private static final int SETS = 512;
        private static final int TOO_MANY = 1000;

        private final Held held;
        private final Cells most = new Cells();
        private final Cells rest = new Cells();
        private final Cells piece = new Cells();
        private int[] best = new int[SETS];
        private int[] next = new int[SETS];

        Views(Held held) {
            this.held = held;
        }

        int most() {
            findMost();
            return most.many();
        }

        int mostPieces() {
            findMost();
            return most.pieceCount(rest, piece);
        }

        boolean canBe() {
            findMost();
            for (int line = 0; line < 3 * SIZE_LIMIT * SIZE_LIMIT; line++) {
                int axis = line / 36;
                int u = line / 6 % 6;
                int v = line % 6;
                if (held.hasPlaces(axis, u, v) && held.isDark(axis, u, v) && !hasMostOn(axis, u, v)) {
                    return false;
                }
            }
            return true;
        }

        /** The fewest CELLS for the VIEWS: layer by layer, the sets of PLACES along z that are dark so far. */
        int least() {
            if (held.size(0) > LEAST_SIZE || held.size(1) > LEAST_SIZE || held.size(2) > LEAST_SIZE || !canBe()) {
                return NONE;
            }
            for (int set = 0; set < best.length; set++) {
                best[set] = set == 0 ? 0 : TOO_MANY;
            }
            for (int z = 0; z < held.size(2); z++) {
                addLayer(z);
            }
            int due = 0;
            for (int place = 0; place < LEAST_SIZE * LEAST_SIZE; place++) {
                int x = place % LEAST_SIZE;
                int y = place / LEAST_SIZE;
                if (held.hasPlaces(2, x, y) && held.isDark(2, x, y)) {
                    due |= 1 << place;
                }
            }
            int found = due >= 0 && due < best.length ? best[due] : TOO_MANY;
            return found < TOO_MANY ? found : NONE;
        }

        private void addLayer(int z) {
            for (int set = 0; set < next.length; set++) {
                next[set] = TOO_MANY;
            }
            for (int layer = 0; layer < SETS; layer++) {
                if (isOfMost(layer, z) && darkens(layer, z)) {
                    joinLayer(layer);
                }
            }
            int[] other = best;
            best = next;
            next = other;
        }

        private void joinLayer(int layer) {
            int many = Integer.bitCount(layer);
            for (int set = 0; set < best.length; set++) {
                int joined = set | layer;
                if (joined >= 0 && joined < next.length) {
                    next[joined] = Math.min(next[joined], best[set] + many);
                }
            }
        }

        private boolean isOfMost(int layer, int z) {
            for (int place = 0; place < LEAST_SIZE * LEAST_SIZE; place++) {
                int cell = 36 * z + 6 * (place / LEAST_SIZE) + place % LEAST_SIZE;
                if ((layer >> place & 1) == 1 && !most.has(cell)) {
                    return false;
                }
            }
            return true;
        }

        /** Whether a layer makes all dark that has to be so in it along x and y. */
        private boolean darkens(int layer, int z) {
            for (int place = 0; place < LEAST_SIZE; place++) {
                boolean alongX = place < held.size(1) && held.isDark(0, place, z);
                boolean alongY = place < held.size(0) && held.isDark(1, place, z);
                if (alongX && (layer & 7 << LEAST_SIZE * place) == 0 || alongY && (layer & 73 << place) == 0) {
                    return false;
                }
            }
            return true;
        }

        private void findMost() {
            most.clear();
            for (int cell = 0; cell < CELL_LIMIT; cell++) {
                int x = cell % 6;
                int y = cell / 6 % 6;
                int z = cell / 36;
                if (held.hasCell(cell) && held.isDark(0, y, z) && held.isDark(1, x, z) && held.isDark(2, x, y)) {
                    most.put(cell);
                }
            }
        }

        private boolean hasMostOn(int axis, int u, int v) {
            for (int along = 0; along < SIZE_LIMIT; along++) {
                if (most.has(held.cellOn(axis, along, u, v))) {
                    return true;
                }
            }
            return false;
        }
    }

    /** Ways from neighbour to neighbour: of ANTS, of a WIRE. */
    private static final class Paths {
        private static final int WIRE_LIMIT = 14;

        private final Held held;
        private final Cheese cheese;
        private final int[] distances = new int[CELL_LIMIT];
        private final int[] queue = new int[CELL_LIMIT];
        private final int[] path = new int[WIRE_LIMIT];
        private final Cells free = new Cells();

        Paths(Held held, Cheese cheese) {
            this.held = held;
            this.cheese = cheese;
        }

        /** How many STEPS ants go, or NONE; leaves behind how far each CELL is from the last one. */
        int measure(int from, int to) {
            for (int cell = 0; cell < distances.length; cell++) {
                distances[cell] = NONE;
            }
            free.copyFrom(cheese.present());
            free.dropAll(cheese.shut());
            if (!free.has(from) || !free.has(to)) {
                return NONE;
            }
            int many = reach(to, 0, 0);
            for (int next = 0; next < many && next < queue.length; next++) {
                int cell = queue[next];
                for (int way = 0; way < 6; way++) {
                    many = reach(Cells.neighbour(cell, way), distanceOf(cell) + 1, many);
                }
            }
            return distanceOf(from);
        }

        /** The CELL so many STEPS on the first way from a CELL, behind measure(). */
        int cellOnWay(int from, int steps) {
            int cell = from;
            for (int step = 0; step < steps && step < CELL_LIMIT; step++) {
                cell = lowestCloser(cell);
            }
            return cell;
        }

        boolean isBarred() {
            int unlike = 0;
            for (int cell = 0; cell < CELL_LIMIT; cell++) {
                if (cheese.present().has(cell)) {
                    unlike += (cell % 6 + cell / 6 % 6 + cell / 36) % 2 == 0 ? 1 : -1;
                }
            }
            return unlike > 1 || unlike < -1 || cheese.pieceCount() > 1;
        }

        /** Whether there is a WIRE (i NONE), or its i-th CELL. */
        int wireCell(int i) {
            if (isBarred()) {
                return i == NONE ? 0 : NONE;
            }
            int many = cheese.present().many();
            if (many > WIRE_LIMIT) {
                return NONE;
            }
            boolean found = findWire(many);
            if (i == NONE) {
                return found ? 1 : 0;
            }
            return found && i >= 0 && i < many && i < path.length ? path[i] : NONE;
        }

        /** The row of no CELLS goes through all, where none is LEFT. */
        private boolean findWire(int many) {
            if (many == 0) {
                return true;
            }
            free.copyFrom(cheese.present());
            for (int cell = 0; cell < CELL_LIMIT; cell++) {
                if (free.has(cell) && goesOn(free, path, cell, 0, many)) {
                    return true;
                }
            }
            return false;
        }

        /** Whether a WIRE that has so many CELLS behind it can go on by a CELL to its end. */
        private static boolean goesOn(Cells free, int[] path, int cell, int behind, int many) {
            if (behind < 0 || behind >= path.length || behind >= WIRE_LIMIT) {
                return false;
            }
            path[behind] = cell;
            if (behind + 1 >= many) {
                return true;
            }
            free.drop(cell);
            for (int way = 0; way < 6; way++) {
                int next = Cells.neighbour(cell, way);
                if (free.has(next) && goesOn(free, path, next, behind + 1, many)) {
                    return true;
                }
            }
            free.put(cell);
            return false;
        }

        private int distanceOf(int cell) {
            return cell >= 0 && cell < distances.length ? distances[cell] : NONE;
        }

        private int reach(int cell, int distance, int many) {
            boolean isNew = free.has(cell) && cell >= 0 && cell < distances.length && distances[cell] == NONE;
            if (!isNew || many < 0 || many >= queue.length) {
                return many;
            }
            distances[cell] = distance;
            queue[many] = cell;
            return many + 1;
        }

        private int lowestCloser(int cell) {
            int distance = distanceOf(cell);
            for (int way = 0; way < 6; way++) {
                int next = Cells.neighbour(cell, way);
                if (next != NONE && distance > 0 && distanceOf(next) == distance - 1) {
                    return next;
                }
            }
            return cell;
        }
    }

    /** What can be counted without looking at each CELL, or without any HOLE: VAST boxes, ANEW. */
    private static final class Vast {
        private static final int KINDS = 10;

        private final Held held;
        private final int[] cellsOfKind = new int[KINDS];
        private final int[] placesOfKind = new int[KINDS];
        private final int[] suiting = new int[KINDS];

        Vast(Held held) {
            this.held = held;
        }

        /** Lines meet at most by threes, of three AXES, so that pairs and threes put their sum right. */
        long leftOf(int x, int y, int z) {
            long taken = 0;
            int many = held.holes.many();
            for (int i = 0; i < many; i++) {
                if (!isLine(i, x, y, z)) {
                    continue;
                }
                int axis = held.holes.number(i, Rods.AXIS);
                taken += pick(axis, x, y, z);
                for (int j = i + 1; j < many; j++) {
                    if (isLine(j, x, y, z) && cross(i, j)) {
                        taken--;
                        taken += crossingBoth(i, j, x, y, z);
                    }
                }
            }
            return (long) x * y * z - taken;
        }

        long waxedOf(int x, int y, int z, int sides, int many) {
            long found = 0;
            for (int onX = 0; onX <= 2; onX++) {
                for (int onY = 0; onY <= 2; onY++) {
                    int onZ = many - onX - onY;
                    found += red(x, sides, onX) * red(y, sides >> 2, onY) * red(z, sides >> 4, onZ);
                }
            }
            return found;
        }

        /**
         * By kinds: a CELL suits a PLACE by how many sides along each AXIS are red, are outside.
         * The most that can be paired is the least, over sets of kinds of CELLS, of the CELLS not in it
         * and the PLACES that suit any in it.
         */
        int placedAnew(int sides) {
            countKinds(sides);
            findSuiting();
            int least = CELL_LIMIT;
            for (int set = 0; set < 1 << KINDS; set++) {
                int reached = 0;
                int bound = 0;
                for (int kind = 0; kind < KINDS; kind++) {
                    if ((set >> kind & 1) == 1) {
                        reached |= numberAt(suiting, kind);
                    } else {
                        bound += numberAt(cellsOfKind, kind);
                    }
                }
                for (int kind = 0; kind < KINDS; kind++) {
                    bound += (reached >> kind & 1) == 1 ? numberAt(placesOfKind, kind) : 0;
                }
                least = Math.min(least, bound);
            }
            return least;
        }

        private static int pick(int axis, int x, int y, int z) {
            return axis == 0 ? x : axis == 1 ? y : z;
        }

        /** Whether a HOLE is in the vast box, and no HOLE ahead of it goes the same line. */
        private boolean isLine(int hole, int x, int y, int z) {
            Rods holes = held.holes;
            int axis = holes.number(hole, Rods.AXIS);
            int u = holes.number(hole, Rods.U);
            int v = holes.number(hole, Rods.V);
            if (u >= (axis == 0 ? y : x) || v >= (axis == 2 ? y : z)) {
                return false;
            }
            for (int other = 0; other < hole; other++) {
                if (holes.number(other, Rods.AXIS) == axis
                        && holes.number(other, Rods.U) == u && holes.number(other, Rods.V) == v) {
                    return false;
                }
            }
            return true;
        }

        private boolean cross(int i, int j) {
            int axis = held.holes.number(i, Rods.AXIS);
            int other = held.holes.number(j, Rods.AXIS);
            int third = 3 - axis - other;
            return axis != other && held.holes.placeOn(i, third) == held.holes.placeOn(j, third);
        }

        /** How many later lines go through where two lines cross. */
        private int crossingBoth(int i, int j, int x, int y, int z) {
            int found = 0;
            for (int k = j + 1; k < held.holes.many(); k++) {
                if (isLine(k, x, y, z) && cross(i, k) && cross(j, k)) {
                    found++;
                }
            }
            return found;
        }

        /** How many of so many places in a row have just so many red ends, by two bits. */
        private static long red(int size, int ends, int many) {
            int both = Integer.bitCount(ends & 3);
            if (size == 1) {
                return both == many ? 1 : 0;
            }
            return many == 0 ? size - both : many == 1 ? both : 0;
        }

        private void countKinds(int sides) {
            for (int kind = 0; kind < cellsOfKind.length && kind < placesOfKind.length; kind++) {
                cellsOfKind[kind] = 0;
                placesOfKind[kind] = 0;
            }
            for (int cell = 0; cell < CELL_LIMIT; cell++) {
                if (held.hasCell(cell)) {
                    int outside = held.sidesOf(cell);
                    addOne(cellsOfKind, kindOf(outside & sides));
                    addOne(placesOfKind, kindOf(outside));
                }
            }
        }

        private static int numberAt(int[] row, int at) {
            return at >= 0 && at < row.length ? row[at] : 0;
        }

        private static void addOne(int[] row, int at) {
            if (at >= 0 && at < row.length) {
                row[at]++;
            }
        }

        /** The kind of SIDES: on how many AXES both of them, on how many one. */
        private static int kindOf(int sides) {
            int ones = 0;
            int twos = 0;
            for (int shift = 0; shift < 6; shift += 2) {
                int ends = sides >> shift & 3;
                twos += ends == 3 ? 1 : 0;
                ones += ends == 1 || ends == 2 ? 1 : 0;
            }
            return kindBy(twos, ones);
        }

        private static int kindBy(int twos, int ones) {
            return ones + (twos == 0 ? 0 : twos == 1 ? 4 : twos == 2 ? 7 : 9);
        }

        private void findSuiting() {
            for (int twos = 0; twos <= 3; twos++) {
                for (int ones = 0; ones + twos <= 3; ones++) {
                    int kind = kindBy(twos, ones);
                    if (kind >= 0 && kind < suiting.length) {
                        suiting[kind] = placesSuiting(twos, ones);
                    }
                }
            }
        }

        private static int placesSuiting(int redTwos, int redOnes) {
            int places = 0;
            for (int twos = 0; twos <= 3; twos++) {
                for (int ones = 0; ones + twos <= 3; ones++) {
                    if (suits(redTwos, redOnes, twos, ones)) {
                        places |= 1 << kindBy(twos, ones);
                    }
                }
            }
            return places;
        }

        /** The AXES with most outside are turned to those with least red. */
        private static boolean suits(int redTwos, int redOnes, int twos, int ones) {
            for (int rank = 0; rank < 3; rank++) {
                int outside = rank < twos ? 2 : rank < twos + ones ? 1 : 0;
                int red = rank >= 3 - redTwos ? 2 : rank >= 3 - redTwos - redOnes ? 1 : 0;
                if (outside + red > 2) {
                    return false;
                }
            }
            return true;
        }
    }

    /** Choices among a few: SCREWS that never MEET, HOLES by COUNTS. */
    private static final class Picks {
        private static final int SCREW_LIMIT = 8;
        private static final int SETS = 64;
        private static final int HALF = 3;
        /** Three sets of y at most have a y, so two bits for each y do. */
        private static final int SUMS = 4096;
        private static final int WAYS_LIMIT = 1000000000;

        private final Held held;
        private final int[] behind = new int[SUMS];
        private final int[] first = new int[SIZE_LIMIT];
        private final int[] met = new int[SCREW_LIMIT];

        Picks(Held held) {
            this.held = held;
        }

        int meetings() {
            findMeetings();
            int found = 0;
            for (int screw = 0; screw < met.length; screw++) {
                found += Integer.bitCount(met[screw]);
            }
            return found;
        }

        /** The most SCREWS that never MEET, the lowest as bits. */
        int apart() {
            findMeetings();
            int best = 0;
            for (int set = 0; set < 1 << held.screws.many() && set < 1 << SCREW_LIMIT; set++) {
                if (Integer.bitCount(set) > Integer.bitCount(best) && isApart(set)) {
                    best = set;
                }
            }
            return best;
        }

        /** In how many ways HOLES fit the COUNTS; leaves the first one behind. */
        int ways() {
            countBehind();
            int found = 0;
            for (int a = 0; a < SETS; a++) {
                for (int b = 0; b < SETS && isSet(0, a); b++) {
                    for (int c = 0; c < SETS && isSet(1, b); c++) {
                        int due = isSet(2, c) ? dueBehind(sumOf(a, b, c)) : NONE;
                        int more = due >= 0 && due < behind.length ? behind[due] : 0;
                        if (found == 0 && more > 0) {
                            keepFirst(0, a, b, c);
                            findFirstBehind(due);
                        }
                        found = Math.min(WAYS_LIMIT, found + more);
                    }
                }
            }
            return found;
        }

        int firstSet(int x) {
            return x >= 0 && x < first.length ? first[x] : NONE;
        }

        /** For each SCREW which later ones it MEETS, as bits. */
        private void findMeetings() {
            for (int screw = 0; screw < met.length; screw++) {
                met[screw] = 0;
                for (int other = screw + 1; other < held.screws.many(); other++) {
                    met[screw] |= haveCommon(screw, other) ? 1 << other : 0;
                }
            }
        }

        private boolean haveCommon(int screw, int other) {
            for (int k = 0; k < SIZE_LIMIT; k++) {
                int cell = held.cellOf(held.screws, screw, k);
                for (int l = 0; l < SIZE_LIMIT && cell != NONE; l++) {
                    if (held.cellOf(held.screws, other, l) == cell) {
                        return true;
                    }
                }
            }
            return false;
        }

        private boolean isApart(int set) {
            for (int screw = 0; screw < met.length; screw++) {
                if ((set >> screw & 1) == 1 && (met[screw] & set) != 0) {
                    return false;
                }
            }
            return true;
        }

        /** For each sum of sets of y, by how many rows of three sets of the later x it comes. */
        private void countBehind() {
            for (int sum = 0; sum < behind.length; sum++) {
                behind[sum] = 0;
            }
            for (int a = 0; a < SETS; a++) {
                for (int b = 0; b < SETS && isSet(HALF, a); b++) {
                    for (int c = 0; c < SETS && isSet(HALF + 1, b); c++) {
                        int sum = sumOf(a, b, c);
                        if (isSet(HALF + 2, c) && sum >= 0 && sum < behind.length) {
                            behind[sum]++;
                        }
                    }
                }
            }
        }

        private void findFirstBehind(int due) {
            for (int a = 0; a < SETS; a++) {
                for (int b = 0; b < SETS && isSet(HALF, a); b++) {
                    for (int c = 0; c < SETS && isSet(HALF + 1, b); c++) {
                        if (isSet(HALF + 2, c) && sumOf(a, b, c) == due) {
                            keepFirst(HALF, a, b, c);
                            return;
                        }
                    }
                }
            }
        }

        private void keepFirst(int x, int a, int b, int c) {
            if (x >= 0 && x + 2 < first.length) {
                first[x] = a;
                first[x + 1] = b;
                first[x + 2] = c;
            }
        }

        /** Whether a set of y can be the one of an x; beyond the BOX it is empty. */
        private boolean isSet(int x, int set) {
            if (x >= held.size(0)) {
                return set == 0;
            }
            return set >> held.size(1) == 0 && Integer.bitCount(set) == held.countTold(0, x);
        }

        private static int sumOf(int a, int b, int c) {
            return spread(a) + spread(b) + spread(c);
        }

        /** Six bits, each on two bits' room. */
        private static int spread(int set) {
            int wide = 0;
            for (int y = 0; y < SIZE_LIMIT; y++) {
                wide |= (set >> y & 1) << 2 * y;
            }
            return wide;
        }

        /** What the later x have to bring to a sum, or NONE if they can't. */
        private int dueBehind(int sum) {
            int due = 0;
            for (int y = 0; y < held.size(1) && y < SIZE_LIMIT; y++) {
                int lacking = held.countTold(1, y) - (sum >> 2 * y & 3);
                if (lacking < 0 || lacking > HALF) {
                    return NONE;
                }
                due |= lacking << 2 * y;
            }
            return due;
        }
    }
}
