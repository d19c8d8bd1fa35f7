/** Boundary cases of promises 34 to 39: FEASTS, IMAGES, counts, status. */
final class EdgesOfKeeping {
    private EdgesOfKeeping() {
    }

    static void all(Edges e) {
        feast(e);
        draws(e);
        drawn(e);
        image(e);
        back(e);
        kept(e);
        notKept(e);
        count(e);
        status(e);
    }

    private static void feast(Edges e) {
        e.edge(34, "s is the SEED (0 .. 1,000,000)", "-1 and 1000001", c -> {
            CheeseCube box = new CheeseCube();
            Edges.refused(c, box, -1, "feast", -1, 0);
            Edges.refused(c, box, -1, "feast", 1000001, 0);
            for (int far : new int[] {Integer.MIN_VALUE, -1000000, 1000002, 1000003, Integer.MAX_VALUE}) {
                Edges.refused(c, box, -1, "feast", far, 1);
            }
            c.due("0", box.feast(0, 1), 120);
            c.due("1000000", box.feast(1000000, 1), 120);
        });
        e.edge(34, "A FEAST, n 0 .. 60", "-1 and 61", c -> {
            CheeseCube box = new CheeseCube();
            Edges.refused(c, box, -1, "feast", 0, -1);
            Edges.refused(c, box, -1, "feast", 0, 61);
            Edges.refusedFar(c, box, -1, 1, "feast", 0, 0);
            c.due("0", box.feast(0, 0), 125);
            c.due("60", box.feast(0, 60), box.drawn(59));
        });
        e.edge(34, "how many CELLS are LEFT then", "none LEFT before, or behind", c -> {
            CheeseCube none = new CheeseCube();
            none.force(Tape.law(none, "takes"));
            c.due("none before", none.feast(5, 60), 0);
            c.due("none behind the first", none.drawn(0), 0);
            CheeseCube one = BoxTest.box(1, 1, 1);
            c.due("one CELL", one.feast(5, 0), 1);
            c.due("one HOLE", one.feast(5, 1), 0);
            c.due("on paper", one.left(0), 1);
            c.due("no HOLE", one.count(3), 0);
        });
        e.edge(34, "(The LAW is asked with HOLES as told alone.)", "LAWS that ask for HOLES", c -> {
            CheeseCube box = new CheeseCube();
            box.force(Tape.law(box, "takes if holes = 0 and z = 4"));
            c.due("as told", box.feast(0, 0), 100);
            c.due("at z 4 none is LEFT", box.feast(0, 1), 100);
            box.hole(0, 1, 4, 0, 6, 0);
            c.due("nor is with a HOLE", box.feast(0, 1), 100);
            box.force(Tape.law(box, "weighs 9; takes if holes > 0"));
            c.due("no HOLE on paper takes", box.feast(0, 2), 125 - 5 - 5);
        });
    }

    /** Whether the first three HOLES of a FEAST are lines that are told: gone before, they take no more. */
    private static void firstThree(Checks c, int seed, int... lines) {
        CheeseCube box = new CheeseCube();
        for (int i = 0; i < lines.length; i += 3) {
            int before = box.left(0);
            box.hole(lines[i], lines[i + 1], lines[i + 2], 0, 6, 0);
            c.holds("a line more", box.left(0) < before);
            c.due("SEED " + seed + ", " + (i / 3 + 1), box.feast(seed, i / 3 + 1), box.left(0));
        }
        CheeseCube other = new CheeseCube();
        other.feast(seed, 3);
        for (int i = 0; i < lines.length; i += 3) {
            other.hole(lines[i], lines[i + 1], lines[i + 2], 0, 6, 0);
            c.due("behind " + i / 3, other.drawn(i / 3), other.left(0));
        }
    }

    private static void draws(Edges e) {
        e.edge(34, "s becomes (s times 1103 and 12345) modulo 1,000,003, it is s modulo m", "least and greatest SEED", c -> {
            firstThree(c, 0, 0, 1, 4, 1, 0, 0, 2, 1, 1);
            firstThree(c, 1000000, 0, 1, 1, 1, 3, 4, 2, 4, 2);
        });
        e.edge(34, "s becomes (s times 1103 and 12345) modulo 1,000,003, it is s modulo m", "s 0, s 1000002", c -> {
            firstThree(c, 870345, 0, 0, 1, 1, 2, 0, 1, 3, 1);
            firstThree(c, 327279, 0, 2, 0, 0, 0, 2, 0, 2, 3);
        });
        e.edge(34, "Each time a DRAW of 3, the AXIS, DRAWS of the SIZES of u, of v", "SIZES unlike, SIZES of one", c -> {
            CheeseCube box = BoxTest.box(2, 3, 4);
            int[] lines = {0, 2, 1, 1, 0, 2, 2, 1, 1, 1, 1, 2, 0, 2, 1, 0, 1, 2};
            box.feast(0, 6);
            CheeseCube other = BoxTest.box(2, 3, 4);
            for (int i = 0; i < 6; i++) {
                other.hole(lines[3 * i], lines[3 * i + 1], lines[3 * i + 2], 0, 6, 0);
                c.due("behind " + i, box.drawn(i), other.left(0));
            }
            CheeseCube bar = BoxTest.box(1, 1, 6);
            bar.feast(0, 3);
            c.due("along x at y 0: a DRAW of 1 is 0", bar.drawn(0), 5);
            c.due("all SIZES 1", BoxTest.box(1, 1, 1).feast(1000000, 60), 0);
        });
    }

    private static void drawn(Edges e) {
        e.edge(35, "Behind the i-th HOLE of the latest FEAST how many CELLS are LEFT. NONE.", "ahead of any, -1, n, far ones", c -> {
            CheeseCube box = new CheeseCube();
            Edges.none(c, box, "drawn", 0);
            Edges.none(c, box, "drawn", -1);
            box.feast(0, 3);
            Edges.none(c, box, "drawn", 3);
            Edges.none(c, box, "drawn", -1);
            Edges.noneFar(c, box, 0, "drawn", 0);
            c.due("the first", box.drawn(0), 120);
            c.due("the last", box.drawn(2) < 115 ? 1 : 0, 1);
        });
        e.edge(35, "the latest FEAST", "of n 0, of 60, a shorter one, a REFUSED one", c -> {
            CheeseCube box = new CheeseCube();
            int all = box.feast(0, 60);
            c.due("the 60th", box.drawn(59), all);
            Edges.none(c, box, "drawn", 60);
            box.feast(0, 1);
            c.due("the first", box.drawn(0), 120);
            Edges.none(c, box, "drawn", 1);
            Edges.refused(c, box, -1, "feast", 0, 61);
            Edges.refused(c, box, -1, "feast", -1, 0);
            c.due("a REFUSED one changes nothing", box.drawn(0), 120);
            box.feast(0, 0);
            Edges.none(c, box, "drawn", 0);
        });
        e.edge(35, "the latest FEAST", "HOLES, SIZES, LAWS that come behind it change nothing", c -> {
            CheeseCube box = new CheeseCube();
            box.feast(0, 1);
            box.hole(2, 0, 0, 0, 6, 0);
            box.terms(0, 1);
            box.force(Tape.law(box, "takes"));
            c.due("as it was", box.drawn(0), 120);
        });
    }

    private static void image(Edges e) {
        e.edge(36, "IMAGE k is kept: 0; -1.", "k -1 and 2", c -> {
            CheeseCube box = new CheeseCube();
            Edges.refused(c, box, -1, "image", -1);
            Edges.refused(c, box, -1, "image", 2);
            Edges.refusedFar(c, box, -1, 0, "image", 0);
            c.due("0", box.image(0), 0);
            c.due("1", box.image(1), 0);
            c.due("status", box.status(), 0);
        });
        e.edge(36, "IMAGE k is kept", "again: the later one, the other IMAGE stays", c -> {
            CheeseCube box = new CheeseCube();
            for (int day = 1; day <= 3; day++) {
                box.terms(3, day);
                box.image(day % 2);
            }
            box.terms(3, 9);
            box.back(0);
            c.due("IMAGE 0", box.count(14), 2);
            box.back(1);
            c.due("IMAGE 1", box.count(14), 3);
        });
        e.edge(36, "IMAGE k is kept", "of a new object; of one full of all", c -> {
            CheeseCube box = new CheeseCube();
            box.image(0);
            fill(box);
            box.image(1);
            box.back(0);
            for (int what = 0; what <= 6; what++) {
                c.due("empty: count(" + what + ")", box.count(what), what < 3 ? 5 : 0);
            }
            c.due("no LAW in FORCE", box.count(13), -1);
            box.back(1);
            int[] due = {6, 6, 6, 16, 6, 8, 8};
            for (int what = 0; what <= 6; what++) {
                c.due("full: count(" + what + ")", box.count(what), due[what]);
            }
            Edges.refused(c, box, -5, "hole", 0, 0, 0, 0, 1, 0);
            Edges.refused(c, box, -5, "law");
            Edges.refused(c, box, -5, "tally", 0, 0, 0, 1);
            Edges.refused(c, box, -5, "screw", 0, 0, 0, 0, 1);
        });
    }

    /** As many of all as there can be. */
    private static void fill(CheeseCube box) {
        for (int axis = 0; axis < 3; axis++) {
            box.terms(axis, 6);
        }
        for (int i = 0; i < 16; i++) {
            box.hole(2, i % 6, i / 6, 0, 1, 0);
            box.tally(0, 0, 0, 6);
            box.screw(0, 0, 0, 0, 1);
            Tape.law(box, "weighs " + (10 + i));
        }
        box.force(5);
    }

    private static void back(Edges e) {
        e.edge(37, "BACK to IMAGE k: 0. -1; -2 it was not kept.", "k -1 and 2, neither kept, one kept", c -> {
            CheeseCube box = new CheeseCube();
            Edges.refused(c, box, -2, "back", 0);
            Edges.refused(c, box, -2, "back", 1);
            Edges.refused(c, box, -1, "back", -1);
            Edges.refused(c, box, -1, "back", 2);
            Edges.refusedFar(c, box, -1, 0, "back", 0);
            box.image(1);
            Edges.refused(c, box, -2, "back", 0);
            c.due("1", box.back(1), 0);
            box.image(2);
            Edges.refused(c, box, -2, "back", 0);
        });
        e.edge(37, "(IMAGES stay)", "the same twice, one behind the other", c -> {
            CheeseCube box = new CheeseCube();
            box.terms(3, 1);
            box.image(0);
            box.terms(3, 2);
            box.image(1);
            for (int i = 0; i < 4; i++) {
                c.due("BACK", box.back(i % 2), 0);
                c.due("DAY", box.count(14), 1 + i % 2);
                box.terms(3, 50 + i);
            }
            c.due("to the same", box.back(0), 0);
            c.due("again", box.back(0), 0);
            c.due("DAY", box.count(14), 1);
        });
    }

    private static void kept(Edges e) {
        e.edge(37, "BACK to one all that it keeps is as it was then", "SIZES, DAY, HOLES that a smaller BOX took", c -> {
            CheeseCube box = new CheeseCube();
            box.hole(2, 4, 3, 1, 6, -1);
            box.hole(0, 4, 4, 0, 2, 0);
            box.terms(3, 42);
            box.image(0);
            int left = box.left(0);
            for (int axis = 0; axis < 3; axis++) {
                box.terms(axis, 1);
            }
            box.terms(3, 0);
            c.due("none stays", box.count(3), 0);
            box.back(0);
            c.due("SIZES", 100 * box.count(0) + 10 * box.count(1) + box.count(2), 555);
            c.due("DAY", box.count(14), 42);
            c.due("HOLES", box.count(3), 2);
            c.due("the first", box.of(0, 5), 0);
            c.due("LEFT", box.left(0), left);
            box.stop(0);
            box.back(0);
            c.due("in their order", box.of(0, 0), 2);
        });
        e.edge(37, "BACK to one all that it keeps is as it was then", "LAWS, FORCE", c -> {
            CheeseCube box = new CheeseCube();
            Tape.law(box, "weighs 10");
            box.force(0);
            box.image(0);
            for (int i = 1; i < 6; i++) {
                box.force(Tape.law(box, "weighs " + (10 + i)));
            }
            c.due("the 6th", box.cell(0, 1), 15);
            box.back(0);
            c.due("one LAW", box.count(4), 1);
            c.due("it is in FORCE", box.cell(0, 1), 10);
            Edges.refused(c, box, -2, "force", 1);
            c.due("the second again", Tape.law(box, "weighs 20"), 1);
            box.force(-1);
            box.image(1);
            box.back(0);
            c.due("in FORCE", box.count(13), 0);
            box.back(1);
            c.due("none in FORCE", box.count(13), -1);
        });
        e.edge(37, "BACK to one all that it keeps is as it was then", "the same number is another LAW in each IMAGE", c -> {
            CheeseCube box = new CheeseCube();
            box.image(0);
            for (int i = 0; i < 6; i++) {
                Tape.law(box, "weighs " + (10 + i));
            }
            box.image(1);
            box.back(0);
            for (int i = 0; i < 6; i++) {
                Tape.law(box, "weighs " + (20 + i));
            }
            box.image(0);
            for (int i = 0; i < 6; i++) {
                box.back(1);
                box.force(i);
                c.due("IMAGE 1, LAW " + i, box.cell(0, 1), 10 + i);
                box.back(0);
                c.due("none in FORCE", box.cell(0, 1), 1);
                box.force(i);
                c.due("IMAGE 0, LAW " + i, box.cell(0, 1), 20 + i);
            }
        });
        e.edge(37, "BACK to one all that it keeps is as it was then", "ROWS, SCREWS, VIEWS, COUNTS", c -> {
            CheeseCube box = new CheeseCube();
            box.tally(0, 0, 0, 4);
            box.screw(0, 0, 0, 0, 1);
            box.view(2, 5, 5, 1);
            box.told(1, 5, 6);
            box.image(0);
            box.forget();
            box.tally(1, 1, 1, 5);
            box.tally(1, 1, 1, 5);
            box.unscrew();
            box.view(2, 5, 5, 0);
            box.view(0, 0, 0, 1);
            box.told(1, 5, 0);
            box.told(0, 0, 6);
            box.back(0);
            c.due("ROWS", box.count(5), 1);
            c.due("not so", box.judge(), 0);
            c.due("SCREWS", box.count(6), 1);
            c.due("it is dark", box.view(2, 5, 5, 0), 1);
            c.due("it is light", box.view(0, 0, 0, 0), 0);
            c.due("COUNT", box.told(1, 5, 0), 6);
            c.due("COUNT", box.told(0, 0, 0), 0);
        });
    }

    private static void notKept(Edges e) {
        e.edge(37, "keep all but the TAPE, FAULT, RIND, the latest FEAST", "each stays as it is", c -> {
            CheeseCube box = new CheeseCube();
            box.image(0);
            Tape.law(box, "takes 1");
            Tape.put(box, 9, 9);
            box.row();
            box.feast(0, 2);
            Tape.put(box, 1, 2, 3);
            box.back(0);
            c.due("TAPE", box.count(7), 3);
            c.due("FAULT", box.fault(), 6);
            c.due("RIND", box.rinds(), 1);
            c.due("FEAST", box.drawn(1), 115);
            box.end(0);
            Tape.law(box, "takes");
            Tape.put(box, 0, 0, 0, 0, 1, 1);
            box.row();
            box.feast(0, 0);
            box.back(0);
            c.due("TAPE", box.count(7), 0);
            c.due("FAULT", box.fault(), -1);
            c.due("RIND", box.rinds(), 0);
            c.due("FEAST", box.drawn(0), -1);
        });
    }

    private static void count(Edges e) {
        e.edge(38, "NONE for others.", "what -1 and 15", c -> {
            CheeseCube box = new CheeseCube();
            Edges.none(c, box, "count", -1);
            Edges.none(c, box, "count", 15);
            Edges.none(c, box, "count", 16);
            Edges.noneFar(c, box, 0, "count", 0);
        });
        e.edge(38, "0, 1, 2 SIZES, 3 HOLES, 4 LAWS, 5 ROWS, 6 SCREWS, 7 bytes of the TAPE", "the most of each", c -> {
            CheeseCube box = new CheeseCube();
            fill(box);
            for (int i = 0; i < 21; i++) {
                box.feed(0, 0, 0, 0, 0);
            }
            int[] due = {6, 6, 6, 16, 6, 8, 8, 400, 0, 0, 0, 8 + 8 + 10, 0, 5, 0};
            for (int what = 0; what < due.length; what++) {
                c.due("count(" + what + ")", box.count(what), due[what]);
            }
        });
        e.edge(38, "8 .. 12 how many calls were REFUSED by -1, -2, -3, -5, -6 (IMAGES do not keep that)", "BACK leaves them", c -> {
            CheeseCube box = new CheeseCube();
            box.image(0);
            box.hole(9, 9, 9, 9, 9, 9);
            box.stop(0);
            box.stop(0);
            box.row();
            box.row();
            box.row();
            for (int i = 0; i < 12; i++) {
                box.tally(0, 0, 0, 0);
            }
            box.back(0);
            int[] due = {1, 2, 0, 4, 3};
            for (int i = 0; i < due.length; i++) {
                c.due("count(" + (8 + i) + ")", box.count(8 + i), due[i]);
            }
            box.back(2);
            box.image(1);
            box.back(1);
            c.due("a REFUSED back()", box.count(8), 2);
        });
        e.edge(38, "-3 it can't be by what stands", "no call is REFUSED by it, be the object full or empty", c -> {
            CheeseCube box = new CheeseCube();
            for (int round = 0; round < 2; round++) {
                for (String name : Call.NAMES) {
                    for (int with = -1; with <= 7; with++) {
                        new Call(name, with, with, with, with, with, with).on(box);
                        c.holds(name + " with " + with, box.status() != -3);
                    }
                }
                fill(box);
            }
            c.due("count(10)", box.count(10), 0);
        });
        e.edge(38, "13 the LAW in FORCE, 14 DAY", "NONE, the last LAW, the last DAY", c -> {
            CheeseCube box = new CheeseCube();
            c.due("NONE", box.count(13), -1);
            fill(box);
            box.terms(3, 99);
            c.due("5", box.count(13), 5);
            c.due("99", box.count(14), 99);
            box.force(-1);
            c.due("NONE", box.count(13), -1);
        });
    }

    private static void status(Edges e) {
        e.edge(39, "0 if it was not, or ahead of any.", "a new object, behind a call that was not REFUSED", c -> {
            CheeseCube box = new CheeseCube();
            c.due("new", box.status(), 0);
            box.stop(0);
            c.due("REFUSED", box.status(), -2);
            c.due("asked again", box.status(), -2);
            box.terms(0, 5);
            c.due("not", box.status(), 0);
        });
        e.edge(39, "What the latest call of hole, stop, terms, row, law, force, tally, view, screw, told, feast, image, back was REFUSED by",
                "calls of others that answer NONE", c -> {
            CheeseCube box = new CheeseCube();
            Call[] others = {new Call("of", 0, 0), new Call("end", 1), new Call("cell", -1, 0), new Call("left", 4),
                new Call("slice", 3, 0, 0), new Call("vast", 0, 0, 0), new Call("judge"), new Call("wax", 64, 0),
                new Call("dipped", 0, 0, 0, 0, 0), new Call("pieces", 1, 0), new Call("fewest", 3, 0, 0),
                new Call("views", 4), new Call("anew", 64), new Call("wire", 500), new Call("meet", 3),
                new Call("fits", 6), new Call("ant", -1, 0, 0), new Call("drawn", 0), new Call("count", 15),
                new Call("fault")};
            for (Call call : others) {
                c.due(call.toString(), call.on(box), -1);
                c.due("status behind " + call, box.status(), 0);
            }
            box.stop(0);
            for (Call call : others) {
                call.on(box);
                c.due("status behind " + call, box.status(), -2);
            }
            c.due("one is REFUSED", box.count(8) + box.count(9), 1);
        });
        e.edge(39, "-1 a number that can't be; -2 there is no such HOLE, LAW, IMAGE", "-1 goes ahead of -2", c -> {
            CheeseCube box = new CheeseCube();
            Edges.refused(c, box, -1, "back", 5);
            Edges.refused(c, box, -2, "back", 1);
            Edges.refused(c, box, -2, "stop", 99);
            Edges.refused(c, box, -2, "force", 99);
        });
        e.edge(39, "-5 no room; -6 a TEXT, a ROW that can't be", "-5 goes ahead of -6", c -> {
            CheeseCube box = new CheeseCube();
            fill(box);
            Tape.put(box, Tape.bytes("no TEXT"));
            Edges.refused(c, box, -5, "law");
            Edges.refused(c, box, -6, "row");
            Tape.put(box, 7);
            c.due("no room for a ROW is RIND", box.row(), 0);
            c.due("status", box.status(), 0);
        });
    }
}
