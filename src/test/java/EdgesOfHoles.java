/** Boundary cases of promises 1 to 5: a new object, HOLES, TERMS. */
final class EdgesOfHoles {
    private EdgesOfHoles() {
    }

    static void all(Edges e) {
        newObject(e);
        hole(e);
        wayOfHole(e);
        stop(e);
        of(e);
        terms(e);
        beyond(e);
    }

    private static CheeseCube withHoles(int many) {
        CheeseCube box = new CheeseCube();
        for (int i = 0; i < many; i++) {
            box.hole(2, i % 5, i / 5, 0, 1, 0);
        }
        return box;
    }

    private static void newObject(Edges e) {
        e.edge(1, "A BOX of five each way.", "the last CELL is 172, there is none behind it", c -> {
            CheeseCube box = new CheeseCube();
            c.due("the last", box.cell(36 * 4 + 6 * 4 + 4, 0), 1);
            c.due("x 5", box.cell(5, 0), -1);
            c.due("y 5", box.cell(30, 0), -1);
            c.due("z 5", box.cell(180, 0), -1);
            c.due("LEFT", box.left(0), 125);
        });
        e.edge(1, "`NONE = -1`: There is none.", "the constant", c -> {
            c.due("NONE", CheeseCube.NONE, -1);
            c.due("no LAW in FORCE", new CheeseCube().count(13), CheeseCube.NONE);
        });
        e.edge(1, "(5 each at first)", "three SIZES", c -> {
            for (int axis = 0; axis < 3; axis++) {
                c.due("SIZE " + axis, new CheeseCube().terms(axis, 6), 5);
            }
        });
        e.edge(1, "3 DAY 0 .. 99 (0 at first)", "0", c -> c.due("DAY", new CheeseCube().terms(3, 5), 0));
        e.edge(1, "one is in FORCE (NONE at first: no CLAUSE)", "none", c -> {
            CheeseCube box = new CheeseCube();
            c.due("in FORCE", box.force(-1), -1);
            c.due("weighs 1", box.cell(0, 1), 1);
            c.due("not SHUT", box.cell(0, 2), 0);
        });
        e.edge(1, "(all light at first)", "108 VIEWS", c -> {
            CheeseCube box = new CheeseCube();
            for (int i = 0; i < 108; i++) {
                c.due("view " + i, box.view(i / 36, i / 6 % 6, i % 6, 1), 0);
            }
        });
        e.edge(1, "`CheeseCube()`", "empty of HOLES, LAWS, ROWS, SCREWS, IMAGES, bytes, COUNTS, REFUSED calls", c -> {
            CheeseCube box = new CheeseCube();
            for (int what = 3; what <= 12; what++) {
                c.due("count(" + what + ")", box.count(what), 0);
            }
            for (int i = 0; i < 12; i++) {
                c.due("COUNT " + i, box.told(i / 6, i % 6, 1), 0);
            }
            c.due("IMAGE 0", box.back(0), -2);
            c.due("IMAGE 1", box.back(1), -2);
        });
        e.edge(1, "An object is used for at most 512 calls after it has been made", "the 512th call answers", c -> {
            CheeseCube box = new CheeseCube();
            for (int i = 1; i <= 510; i += 2) {
                c.due("terms", box.terms(3, i % 100), i == 1 ? 0 : (i - 2) % 100);
                c.due("left", box.left(0), 125);
            }
            c.due("call 511", box.hole(2, 0, 0, 0, 6, 0), 0);
            c.due("call 512", box.left(0), 120);
        });
    }

    private static void hole(Edges e) {
        e.edge(2, "HOLES 0 .. 15 (16 at most)", "the 16th is 15, there is no room for a 17th", c -> {
            CheeseCube box = withHoles(15);
            c.due("the 16th", box.hole(0, 0, 0, 0, 1, 0), 15);
            Edges.refused(c, box, -5, "hole", 0, 0, 0, 0, 1, 0);
            box.stop(3);
            c.due("room again", box.hole(0, 0, 0, 0, 1, 0), 15);
            Edges.refused(c, box, -5, "hole", 0, 0, 0, 0, 1, 0);
        });
        e.edge(2, "The first of these in that order.", "wrong numbers go ahead of no room", c -> {
            CheeseCube box = withHoles(16);
            Edges.refused(c, box, -1, "hole", 3, 0, 0, 0, 1, 0);
            Edges.refused(c, box, -1, "hole", 0, 5, 0, 0, 1, 0);
            Edges.refused(c, box, -1, "hole", 0, 0, 0, 0, 1, 2);
            Edges.refused(c, box, -5, "hole", 0, 4, 4, 1, 6, 1);
        });
        e.edge(2, "along an AXIS (0 x, 1 y, 2 z)", "-1 and 3 can't be", c -> {
            CheeseCube box = new CheeseCube();
            Edges.refused(c, box, -1, "hole", -1, 0, 0, 0, 1, 0);
            Edges.refused(c, box, -1, "hole", 3, 0, 0, 0, 1, 0);
            Edges.refusedFar(c, box, -1, 0, "hole", 0, 0, 0, 0, 1, 0);
            c.due("AXIS 0", box.hole(0, 0, 0, 0, 6, 0), 0);
            c.due("AXIS 2", box.hole(2, 0, 0, 0, 6, 0), 1);
            c.due("x to the end", box.cell(4, 0), 0);
            c.due("z to the end", box.cell(144, 0), 0);
        });
        e.edge(2, "-1 (PLACES that are not in the BOX, too)", "the last PLACE of each AXIS and the one behind it", c -> {
            int[] size = {2, 3, 4};
            for (int axis = 0; axis < 3; axis++) {
                CheeseCube box = BoxTest.box(2, 3, 4);
                int u = size[axis == 0 ? 1 : 0] - 1;
                int v = size[axis == 2 ? 1 : 2] - 1;
                c.due("the last", box.hole(axis, u, v, 0, 1, 0), 0);
                Edges.refused(c, box, -1, "hole", axis, u + 1, v, 0, 1, 0);
                Edges.refused(c, box, -1, "hole", axis, u, v + 1, 0, 1, 0);
                Edges.refused(c, box, -1, "hole", axis, -1, v, 0, 1, 0);
                Edges.refused(c, box, -1, "hole", axis, u, -1, 0, 1, 0);
                Edges.refusedFar(c, box, -1, 1, "hole", axis, 0, 0, 0, 1, 0);
                Edges.refusedFar(c, box, -1, 2, "hole", axis, 0, 0, 0, 1, 0);
            }
        });
        e.edge(2, "at PLACES u, v (the other two of x, y, z, in this order)", "the last of each, in BOXES of one but for it", c -> {
            int[][] due = {{-1, 0, 0}, {0, -1, 1}, {1, 1, -1}};
            for (int axis = 0; axis < 3; axis++) {
                for (int other = 0; other < 3; other++) {
                    int[] size = {1, 1, 1};
                    size[other] = 6;
                    CheeseCube box = BoxTest.box(size[0], size[1], size[2]);
                    c.due("u of " + axis + " is " + other, box.hole(axis, 5, 0, 0, 1, 0), due[other][axis] == 0 ? 0 : -1);
                    c.due("v of " + axis + " is " + other, box.hole(axis, 0, 5, 0, 1, 0) >= 0 ? 1 : 0,
                            due[other][axis] == 1 ? 1 : 0);
                }
            }
        });
        e.edge(2, "from an END (0: from 0 up, 1: from the greatest down)", "-1 and 2 can't be", c -> {
            CheeseCube box = new CheeseCube();
            Edges.refused(c, box, -1, "hole", 0, 0, 0, -1, 1, 0);
            Edges.refused(c, box, -1, "hole", 0, 0, 0, 2, 1, 0);
            Edges.refusedFar(c, box, -1, 3, "hole", 0, 0, 0, 0, 1, 0);
            box.hole(0, 0, 0, 0, 1, 0);
            box.hole(0, 1, 0, 1, 1, 0);
            c.due("x 0", box.cell(0, 0), 0);
            c.due("not x 4", box.cell(4, 0), 1);
            c.due("x 4", box.cell(6 + 4, 0), 0);
            c.due("not x 0", box.cell(6, 0), 1);
        });
        e.edge(2, "so DEEP 1 .. 6", "0 and 7 can't be", c -> {
            CheeseCube box = BoxTest.box(6, 6, 6);
            Edges.refused(c, box, -1, "hole", 2, 0, 0, 0, 0, 0);
            Edges.refused(c, box, -1, "hole", 2, 0, 0, 0, 7, 0);
            Edges.refused(c, box, -1, "hole", 2, 0, 0, 0, -1, 0);
            Edges.refusedFar(c, box, -1, 4, "hole", 2, 0, 0, 0, 1, 0);
            box.hole(2, 0, 0, 0, 1, 0);
            c.due("one CELL", box.left(0), 215);
            box.hole(2, 1, 0, 1, 6, 0);
            c.due("six more", box.left(0), 209);
        });
        e.edge(2, "LEANING -1 .. 1", "-2 and 2 can't be", c -> {
            CheeseCube box = new CheeseCube();
            Edges.refused(c, box, -1, "hole", 2, 2, 2, 0, 1, -2);
            Edges.refused(c, box, -1, "hole", 2, 2, 2, 0, 1, 2);
            Edges.refusedFar(c, box, -1, 5, "hole", 2, 2, 2, 0, 1, 0);
            c.due("-1", box.hole(2, 2, 2, 0, 1, -1), 0);
            c.due("1", box.hole(2, 2, 2, 0, 1, 1), 1);
        });
        e.edge(2, "A HOLE: its number.", "0 again when all have been stopped", c -> {
            CheeseCube box = withHoles(1);
            box.stop(0);
            c.due("number", box.hole(0, 0, 0, 0, 1, 0), 0);
        });
    }

    private static void wayOfHole(Edges e) {
        e.edge(2, "it ends where it leaves the BOX", "at its last CELL, at either end of u", c -> {
            CheeseCube box = new CheeseCube();
            box.hole(2, 4, 0, 0, 6, 1);
            c.due("u 5 is not there", box.left(0), 124);
            box.hole(2, 0, 1, 0, 6, -1);
            c.due("u -1 is not there", box.left(0), 123);
            box.hole(2, 3, 2, 1, 6, 1);
            c.due("two", box.left(0), 121);
            box.hole(2, 1, 3, 1, 6, -1);
            c.due("two", box.left(0), 119);
            box.hole(2, 0, 4, 0, 6, 1);
            c.due("from corner to corner", box.left(0), 114);
            c.due("its last CELL", box.cell(144 + 24 + 4, 3), 1);
            CheeseCube wide = BoxTest.box(6, 6, 6);
            wide.hole(2, 5, 0, 0, 6, 1);
            c.due("one", wide.left(0), 215);
            c.due("u 6 is no CELL of the next row", wide.cell(36 + 6, 3), 0);
        });
        e.edge(2, "it ends where it leaves the BOX", "DEEP 6 in a BOX of one", c -> {
            for (int axis = 0; axis < 3; axis++) {
                CheeseCube box = BoxTest.box(1, 1, 1);
                box.hole(axis, 0, 0, axis % 2, 6, 0);
                c.due("goes", box.of(0, 6), 1);
                c.due("none is LEFT", box.left(0), 0);
            }
        });
        e.edge(2, "(at each CELL further u is as much more)", "u is y along x, x along y and z", c -> {
            CheeseCube box = new CheeseCube();
            box.hole(0, 1, 2, 1, 2, 1);
            c.due("y 1 at x 4", box.cell(72 + 6 + 4, 3), 1);
            c.due("y 2 at x 3", box.cell(72 + 12 + 3, 3), 1);
            c.due("no more", box.of(0, 6), 2);
            box.hole(1, 3, 0, 0, 2, -1);
            c.due("x 3 at y 0", box.cell(3, 3), 1);
            c.due("x 2 at y 1", box.cell(6 + 2, 3), 1);
            box.hole(2, 3, 4, 1, 2, 1);
            c.due("x 3 at z 4", box.cell(144 + 24 + 3, 3), 1);
            c.due("x 4 at z 3", box.cell(108 + 24 + 4, 3), 1);
        });
    }

    private static void stop(Edges e) {
        e.edge(3, "-2.", "no HOLE at all, one below 0, one behind the last", c -> {
            CheeseCube box = new CheeseCube();
            Edges.refused(c, box, -2, "stop", 0);
            Edges.refused(c, box, -2, "stop", -1);
            box.hole(0, 0, 0, 0, 6, 0);
            box.hole(0, 1, 0, 0, 6, 0);
            Edges.refused(c, box, -2, "stop", 2);
            Edges.refused(c, box, -2, "stop", -1);
            Edges.refused(c, box, -2, "stop", 16);
            Edges.refusedFar(c, box, -2, 0, "stop", 0);
        });
        e.edge(3, "those behind it move up", "the first, the last, one between, of 16", c -> {
            CheeseCube box = withHoles(16);
            c.due("the first", box.stop(0), 15);
            c.due("0 was 1", 10 * box.of(0, 1) + box.of(0, 2), 10);
            c.due("14 was 15", 10 * box.of(14, 1) + box.of(14, 2), 3);
            c.due("no 15", box.of(15, 0), -1);
            c.due("the last", box.stop(14), 14);
            c.due("13 was 14", 10 * box.of(13, 1) + box.of(13, 2), 42);
            c.due("one between", box.stop(5), 13);
            c.due("4 stays", 10 * box.of(4, 1) + box.of(4, 2), 1);
            c.due("5 was 6", 10 * box.of(5, 1) + box.of(5, 2), 21);
        });
        e.edge(3, "those behind it move up", "with all six numbers of each", c -> {
            int[][] holes = {{0, 1, 4, 0, 2, -1}, {1, 3, 0, 1, 5, 0}, {2, 2, 3, 0, 1, 1}, {0, 4, 2, 1, 6, 1}};
            for (int gone = 0; gone < holes.length; gone++) {
                CheeseCube box = new CheeseCube();
                for (int[] hole : holes) {
                    new Call("hole", hole).on(box);
                }
                box.stop(gone);
                for (int i = 0; i < 3; i++) {
                    int[] due = holes[i < gone ? i : i + 1];
                    for (int what = 0; what < 6; what++) {
                        c.due(i + " without " + gone + ", " + what, box.of(i, what), due[what] + (what == 5 ? 1 : 0));
                    }
                }
            }
        });
        e.edge(3, "how many are left", "0 behind the last one", c -> {
            CheeseCube box = withHoles(2);
            c.due("one", box.stop(1), 1);
            c.due("none", box.stop(0), 0);
            c.due("all CELLS", box.left(0), 125);
            Edges.refused(c, box, -2, "stop", 0);
        });
    }

    private static void of(Edges e) {
        e.edge(4, "NONE.", "no such HOLE", c -> {
            CheeseCube box = new CheeseCube();
            Edges.none(c, box, "of", 0, 0);
            box.hole(0, 0, 0, 0, 1, 0);
            for (int what = 0; what <= 6; what++) {
                Edges.none(c, box, "of", 1, what);
                Edges.none(c, box, "of", -1, what);
                Edges.noneFar(c, box, 0, "of", 0, what);
            }
        });
        e.edge(4, "NONE.", "what is -1, 7 and more", c -> {
            CheeseCube box = withHoles(16);
            Edges.none(c, box, "of", 0, -1);
            Edges.none(c, box, "of", 0, 7);
            Edges.none(c, box, "of", 15, 7);
            Edges.noneFar(c, box, 1, "of", 0, 0);
        });
        e.edge(4, "5 LEANING and 1", "-1 is told as 0, 1 as 2", c -> {
            CheeseCube box = new CheeseCube();
            for (int leaning = -1; leaning <= 1; leaning++) {
                box.hole(2, 2, 2, 0, 6, leaning);
                c.due("LEANING " + leaning, box.of(leaning + 1, 5), leaning + 1);
            }
        });
        e.edge(4, "6 through how many CELLS it goes", "1 to 6, fewer than DEEP where it leaves the BOX", c -> {
            CheeseCube box = BoxTest.box(6, 6, 6);
            for (int deep = 1; deep <= 6; deep++) {
                box.hole(1, 0, deep - 1, deep % 2, deep, 0);
                c.due("DEEP " + deep, box.of(deep - 1, 6), deep);
            }
            box.hole(1, 5, 0, 0, 6, 1);
            c.due("leans out at once", box.of(6, 6), 1);
            box.hole(1, 5, 0, 0, 6, -1);
            c.due("from edge to edge", box.of(7, 6), 6);
            box.terms(1, 1);
            c.due("in a BOX of one", box.of(7, 6), 1);
            c.due("DEEP stays", box.of(7, 4), 6);
        });
        e.edge(4, "Of a HOLE 0 AXIS", "the greatest numbers of each", c -> {
            CheeseCube box = BoxTest.box(6, 6, 6);
            box.hole(2, 5, 5, 1, 6, 1);
            int[] due = {2, 5, 5, 1, 6, 2, 1};
            for (int what = 0; what < due.length; what++) {
                c.due("what " + what, box.of(0, what), due[what]);
            }
        });
    }

    private static void terms(Edges e) {
        e.edge(5, "SIZES of x, y, z 1 .. 6", "0 and 7 can't be", c -> {
            for (int axis = 0; axis < 3; axis++) {
                CheeseCube box = new CheeseCube();
                Edges.refused(c, box, -1, "terms", axis, 0);
                Edges.refused(c, box, -1, "terms", axis, 7);
                Edges.refused(c, box, -1, "terms", axis, -1);
                Edges.refusedFar(c, box, -1, 1, "terms", axis, 1);
                c.due("6", box.terms(axis, 6), 5);
                c.due("CELLS", box.left(0), 150);
                c.due("1", box.terms(axis, 1), 6);
                c.due("CELLS", box.left(0), 25);
            }
        });
        e.edge(5, "3 DAY 0 .. 99", "-1 and 100 can't be", c -> {
            CheeseCube box = new CheeseCube();
            Edges.refused(c, box, -1, "terms", 3, -1);
            Edges.refused(c, box, -1, "terms", 3, 100);
            Edges.refusedFar(c, box, -1, 1, "terms", 3, 1);
            c.due("99", box.terms(3, 99), 0);
            c.due("0", box.terms(3, 0), 99);
            c.due("7 is no SIZE", box.terms(3, 7), 0);
        });
        e.edge(5, "TERMS: 0, 1, 2 SIZES", "TERMS -1 and 4 can't be", c -> {
            CheeseCube box = new CheeseCube();
            Edges.refused(c, box, -1, "terms", -1, 1);
            Edges.refused(c, box, -1, "terms", 4, 1);
            Edges.refusedFar(c, box, -1, 0, "terms", 0, 1);
        });
        e.edge(5, "A TERM: what it was.", "the same value again", c -> {
            CheeseCube box = withHoles(3);
            c.due("SIZE", box.terms(1, 5), 5);
            c.due("DAY", box.terms(3, 0), 0);
            c.due("HOLES stay", box.count(3), 3);
        });
    }

    private static void beyond(Edges e) {
        e.edge(5, "(HOLES, ROWS, SCREWS that begin beyond then go)", "HOLES: the last PLACE stays, the next goes", c -> {
            for (int axis = 0; axis < 3; axis++) {
                CheeseCube box = new CheeseCube();
                int u = axis == 0 ? 1 : 0;
                int v = axis == 2 ? 1 : 2;
                box.hole(axis, 4, 0, 0, 1, -1);
                box.hole(axis, 3, 0, 1, 1, 1);
                box.hole(axis, 0, 3, 0, 1, 0);
                box.hole(axis, 0, 4, 1, 6, 0);
                box.terms(axis, 1);
                c.due("along it none goes", box.count(3), 4);
                box.terms(u, 4);
                c.due("u 4 goes", box.count(3), 3);
                c.due("u 3 is the first", box.of(0, 1), 3);
                box.terms(v, 4);
                c.due("v 4 goes", box.count(3), 2);
                c.due("v 3 is the second", box.of(1, 2), 3);
                box.terms(u, 6);
                box.terms(v, 6);
                c.due("none comes again", box.count(3), 2);
            }
        });
        e.edge(5, "(HOLES, ROWS, SCREWS that begin beyond then go)", "ROWS: the last PLACE stays, the next goes", c -> {
            for (int axis = 0; axis < 3; axis++) {
                CheeseCube box = new CheeseCube();
                box.tally(axis, 4, 0, 0);
                box.tally(axis, 3, 3, 5);
                box.tally(axis, 0, 4, 0);
                c.due("the first is not so", box.judge(), 0);
                box.terms(axis == 0 ? 1 : 0, 4);
                c.due("u 4 goes", box.count(5), 2);
                c.due("the first is so", box.judge(), 1);
                box.terms(axis == 2 ? 1 : 2, 4);
                c.due("v 4 goes", box.count(5), 1);
                c.due("all is so", box.judge(), -1);
                box.terms(axis, 1);
                c.due("along it none goes", box.forget(), 1);
            }
        });
        e.edge(5, "(HOLES, ROWS, SCREWS that begin beyond then go)", "SCREWS: the last PLACE stays, the next goes", c -> {
            for (int axis = 0; axis < 3; axis++) {
                CheeseCube box = new CheeseCube();
                box.screw(axis, 4, 0, 0, 1);
                box.screw(axis, 3, 3, 0, 1);
                box.screw(axis, 0, 4, 1, 6);
                box.screw(axis, 3, 3, 1, 5);
                c.due("one pair", box.meet(0), 1);
                box.terms(axis == 0 ? 1 : 0, 4);
                c.due("u 4 goes", box.count(6), 3);
                box.terms(axis == 2 ? 1 : 2, 4);
                c.due("v 4 goes", box.count(6), 2);
                box.terms(axis, 1);
                c.due("along it none goes", box.count(6), 2);
                c.due("they are those that MEET", box.meet(0), 1);
            }
        });
        e.edge(5, "(HOLES, ROWS, SCREWS that begin beyond then go)", "one that leans out of the smaller BOX begins in it", c -> {
            CheeseCube box = new CheeseCube();
            box.hole(2, 1, 0, 0, 5, 1);
            c.due("four CELLS", box.of(0, 6), 4);
            box.terms(0, 2);
            c.due("stays", box.count(3), 1);
            c.due("one CELL", box.of(0, 6), 1);
            box.terms(0, 1);
            c.due("goes", box.count(3), 0);
        });
        e.edge(5, "(HOLES, ROWS, SCREWS that begin beyond then go)", "a REFUSED size takes none", c -> {
            CheeseCube box = withHoles(16);
            Edges.refused(c, box, -1, "terms", 0, 0);
            Edges.refused(c, box, -1, "terms", 1, -1);
            c.due("HOLES", box.count(3), 16);
            c.due("all of 16 beyond go", box.terms(0, 1), 5);
            c.due("those at x 0 stay", box.count(3), 4);
        });
    }
}
