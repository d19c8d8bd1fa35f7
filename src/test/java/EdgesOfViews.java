/** Boundary cases of promises 24, 25: VIEWS, the MOST, the LEAST. */
final class EdgesOfViews {
    private EdgesOfViews() {
    }

    static void all(Edges e) {
        view(e);
        most(e);
        least(e);
    }

    /** All 108 VIEWS are made dark. */
    private static CheeseCube dark(CheeseCube box) {
        for (int i = 0; i < 108; i++) {
            box.view(i / 36, i / 6 % 6, i % 6, 1);
        }
        return box;
    }

    /** The three VIEWS of a CELL are made dark, or light. */
    private static CheeseCube seen(CheeseCube box, int x, int y, int z, int value) {
        box.view(0, y, z, value);
        box.view(1, x, z, value);
        box.view(2, x, y, value);
        return box;
    }

    private static void views(Checks c, CheeseCube box, int... due) {
        for (int what = 0; what < 4; what++) {
            c.due("views(" + what + ")", box.views(what), due[what]);
        }
    }

    private static void view(Edges e) {
        e.edge(24, "A VIEW at PLACES (0 .. 5 each, in the BOX as it is or not)", "-1 and 6 can't be, 5 in a BOX of one", c -> {
            CheeseCube box = BoxTest.box(1, 1, 1);
            for (int axis = 0; axis < 3; axis++) {
                Edges.refused(c, box, -1, "view", axis, -1, 0, 1);
                Edges.refused(c, box, -1, "view", axis, 6, 0, 1);
                Edges.refused(c, box, -1, "view", axis, 0, -1, 1);
                Edges.refused(c, box, -1, "view", axis, 0, 6, 1);
                Edges.refusedFar(c, box, -1, 1, "view", axis, 0, 0, 1);
                Edges.refusedFar(c, box, -1, 2, "view", axis, 0, 0, 1);
                c.due("5, 5", box.view(axis, 5, 5, 1), 0);
                c.due("0, 5", box.view(axis, 0, 5, 1), 0);
                c.due("5, 0", box.view(axis, 5, 0, 1), 0);
                c.due("5, 5 again", box.view(axis, 5, 5, 1), 1);
            }
            c.due("status", box.status(), 0);
        });
        e.edge(24, "along each AXIS what is seen through", "AXIS -1 and 3 can't be", c -> {
            CheeseCube box = new CheeseCube();
            Edges.refused(c, box, -1, "view", -1, 0, 0, 1);
            Edges.refused(c, box, -1, "view", 3, 0, 0, 1);
            Edges.refusedFar(c, box, -1, 0, "view", 0, 0, 0, 1);
        });
        e.edge(24, "is dark (1), light (0): what it was. -1.", "-1 and 2 can't be, a REFUSED one changes nothing", c -> {
            CheeseCube box = new CheeseCube();
            box.view(1, 2, 3, 1);
            Edges.refused(c, box, -1, "view", 1, 2, 3, -1);
            Edges.refused(c, box, -1, "view", 1, 2, 3, 2);
            Edges.refusedFar(c, box, -1, 3, "view", 1, 2, 3, 0);
            c.due("dark still", box.view(1, 2, 3, 1), 1);
            c.due("dark again", box.view(1, 2, 3, 0), 1);
            c.due("light", box.view(1, 2, 3, 0), 0);
        });
        e.edge(24, "(all light at first)", "each of 108 is one of its own", c -> {
            CheeseCube box = new CheeseCube();
            for (int i = 0; i < 108; i += 7) {
                box.view(i / 36, i / 6 % 6, i % 6, 1);
            }
            for (int i = 0; i < 108; i++) {
                c.due("view " + i, box.view(i / 36, i / 6 % 6, i % 6, 0), i % 7 == 0 ? 1 : 0);
            }
        });
        e.edge(24, "in the BOX as it is or not", "it stays when SIZES change", c -> {
            CheeseCube box = seen(new CheeseCube(), 4, 4, 4, 1);
            c.due("a CELL", box.views(0), 1);
            box.terms(0, 1);
            c.due("not there", box.views(0), 0);
            box.terms(0, 6);
            c.due("there again", box.views(0), 1);
        });
    }

    private static void most(Edges e) {
        e.edge(25, "VIEWS: how many CELLS the MOST has (what 0)", "what -1 and 4", c -> {
            CheeseCube box = new CheeseCube();
            Edges.none(c, box, "views", -1);
            Edges.none(c, box, "views", 4);
            Edges.noneFar(c, box, 0, "views", 0);
        });
        e.edge(25, "The MOST: all CELLS whose three rows are dark", "none is dark, all are, one is light", c -> {
            views(c, new CheeseCube(), 0, 1, 0, -1);
            views(c, BoxTest.box(3, 3, 3), 0, 1, 0, 0);
            views(c, dark(BoxTest.box(6, 6, 6)), 216, 1, 1, -1);
            views(c, dark(BoxTest.box(1, 1, 1)), 1, 1, 1, 1);
            for (int axis = 0; axis < 3; axis++) {
                CheeseCube box = dark(BoxTest.box(6, 6, 6));
                box.view(axis, 5, 5, 0);
                views(c, box, 210, 1, 1, -1);
                box.view(axis, 0, 0, 0);
                views(c, box, 204, 1, 1, -1);
            }
        });
        e.edge(25, "it CAN be, if each dark one has one", "a row without, at either end", c -> {
            for (int axis = 0; axis < 3; axis++) {
                for (int place = 0; place <= 4; place += 4) {
                    CheeseCube box = seen(new CheeseCube(), 2, 2, 2, 1);
                    c.due("a CELL", box.views(1), 1);
                    box.view(axis, place, place, 1);
                    c.due("one more dark", box.views(1), 0);
                    box.view(axis, place, place, 0);
                    c.due("light again", box.views(1), 1);
                    box.view(axis, 2, 2, 0);
                    c.due("two without it", box.views(1), 0);
                }
            }
        });
        e.edge(25, "it CAN be, if each dark one has one", "each of the 108 VIEWS dark alone", c -> {
            CheeseCube box = BoxTest.box(6, 6, 6);
            for (int i = 0; i < 108; i++) {
                box.view(i / 36, i / 6 % 6, i % 6, 1);
                c.due("dark " + i, box.views(1), 0);
                box.view(i / 36, i / 6 % 6, i % 6, 0);
            }
            c.due("all light", box.views(1), 1);
        });
        e.edge(25, "(those at PLACES in the BOX as it is; others are left aside, in the LEAST, too)", "the PLACE behind the last", c -> {
            for (int axis = 0; axis < 3; axis++) {
                CheeseCube box = seen(BoxTest.box(2, 2, 2), 1, 1, 1, 1);
                box.view(axis, 2, 1, 1);
                box.view(axis, 1, 2, 1);
                box.view(axis, 5, 5, 1);
                views(c, box, 1, 1, 1, 1);
                box.view(axis, 0, 1, 1);
                views(c, box, 1, 0, 1, -1);
                box.view(axis, 0, 1, 0);
                box.terms(axis == 0 ? 1 : 0, 3);
                views(c, box, 1, 0, 1, -1);
            }
        });
        e.edge(25, "in how many PIECES the MOST is (2)", "none, corners, every other CELL's row", c -> {
            CheeseCube box = BoxTest.box(6, 6, 6);
            c.due("none", box.views(2), 0);
            seen(box, 0, 0, 0, 1);
            c.due("one", box.views(2), 1);
            seen(box, 5, 5, 5, 1);
            c.due("two", box.views(2), 2);
            seen(box, 0, 0, 1, 1);
            c.due("two still", box.views(2), 2);
            for (int i = 2; i < 5; i++) {
                seen(box, i, i, i, 1);
            }
            c.due("five along", box.views(2), 5);
        });
        e.edge(25, "(HOLES, LAWS aside.)", "none is LEFT", c -> {
            CheeseCube box = dark(BoxTest.box(3, 3, 3));
            box.force(Tape.law(box, "takes"));
            box.hole(0, 0, 0, 0, 6, 0);
            c.due("LEFT", box.left(0), 0);
            views(c, box, 27, 1, 1, 9);
        });
    }

    private static void least(Edges e) {
        e.edge(25, "The LEAST, in a BOX of SIZES 3 at most", "4 of each; NONE for 3 alone", c -> {
            for (int axis = 0; axis < 3; axis++) {
                CheeseCube box = dark(BoxTest.box(3, 3, 3));
                c.due("3", box.views(3), 9);
                box.terms(axis, 4);
                views(c, box, 36, 1, 1, -1);
                box.terms(axis, 3);
                views(c, box, 27, 1, 1, 9);
                box.terms(axis, 2);
                views(c, box, 18, 1, 1, 9);
                box.terms(axis, 1);
                views(c, box, 9, 1, 1, 9);
            }
        });
        e.edge(25, "NONE (it can't be, SIZES above 3, for 3)", "it can't be", c -> {
            for (int axis = 0; axis < 3; axis++) {
                CheeseCube box = BoxTest.box(3, 3, 3);
                box.view(axis, 2, 2, 1);
                views(c, box, 0, 0, 0, -1);
                box.view(axis, 2, 2, 0);
                views(c, box, 0, 1, 0, 0);
            }
        });
        e.edge(25, "the fewest CELLS so that just the dark ones are dark", "0, 1, 2, all CELLS, fewer than the MOST", c -> {
            views(c, BoxTest.box(1, 1, 1), 0, 1, 0, 0);
            views(c, seen(BoxTest.box(3, 3, 3), 2, 2, 2, 1), 1, 1, 1, 1);
            views(c, seen(seen(BoxTest.box(3, 3, 3), 0, 0, 0, 1), 2, 2, 2, 1), 2, 1, 2, 2);
            views(c, seen(seen(BoxTest.box(3, 3, 3), 0, 1, 1, 1), 2, 1, 1, 1), 2, 1, 2, 2);
            views(c, seen(seen(BoxTest.box(3, 3, 3), 1, 0, 1, 1), 1, 1, 1, 1), 2, 1, 1, 2);
            views(c, seen(seen(BoxTest.box(3, 3, 3), 1, 1, 1, 1), 1, 1, 2, 1), 2, 1, 1, 2);
            views(c, dark(BoxTest.box(3, 1, 1)), 3, 1, 1, 3);
            views(c, dark(BoxTest.box(2, 2, 1)), 4, 1, 1, 4);
            views(c, dark(BoxTest.box(2, 2, 2)), 8, 1, 1, 4);
            views(c, dark(BoxTest.box(3, 2, 2)), 12, 1, 1, 6);
        });
        e.edge(25, "so that just the dark ones are dark", "a CELL in a light row would do with four of them", c -> {
            int[][] cells = {{0, 0, 0}, {0, 0, 1}, {0, 1, 1}, {1, 0, 0}, {1, 2, 0}};
            int[][] orders = {{0, 1, 2}, {0, 2, 1}, {1, 0, 2}, {1, 2, 0}, {2, 0, 1}, {2, 1, 0}};
            for (int i = 0; i < 48; i++) {
                CheeseCube box = BoxTest.box(3, 3, 3);
                for (int[] cell : cells) {
                    int[] xyz = new int[3];
                    for (int axis = 0; axis < 3; axis++) {
                        int at = cell[orders[i / 8][axis]];
                        xyz[axis] = (i >> axis & 1) == 0 ? at : 2 - at;
                    }
                    seen(box, xyz[0], xyz[1], xyz[2], 1);
                }
                views(c, box, 5, 1, 2, 5);
            }
        });
        e.edge(25, "just the dark ones are dark", "five of the MOST's six; four with one in a light row, at any place", c -> {
            int[][] cells = {{0, 0, 0}, {1, 0, 0}, {0, 1, 0}, {1, 0, 1}, {1, 1, 1}};
            int[][] orders = {{0, 1, 2}, {0, 2, 1}, {1, 0, 2}, {1, 2, 0}, {2, 0, 1}, {2, 1, 0}};
            for (int i = 0; i < 8 * 8 * 6; i++) {
                CheeseCube box = BoxTest.box(3, 3, 3);
                for (int[] cell : cells) {
                    int[] xyz = new int[3];
                    for (int axis = 0; axis < 3; axis++) {
                        xyz[axis] = (cell[orders[i / 64][axis]] ^ i >> axis & 1) + (i >> 3 + axis & 1);
                    }
                    seen(box, xyz[0], xyz[1], xyz[2], 1);
                }
                views(c, box, 6, 1, 1, 5);
            }
        });
        e.edge(25, "others are left aside, in the LEAST, too", "all 108 are dark in a smaller BOX", c -> {
            CheeseCube box = dark(BoxTest.box(1, 1, 1));
            views(c, box, 1, 1, 1, 1);
            box.terms(2, 3);
            views(c, box, 3, 1, 1, 3);
            box.terms(2, 1);
            box.terms(1, 3);
            views(c, box, 3, 1, 1, 3);
        });
    }
}
