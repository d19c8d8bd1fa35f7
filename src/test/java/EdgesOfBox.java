/** Boundary cases of promises 14, 15, 17 to 20, 22: what is LEFT, ROWS that were counted, WAX, PIECES. */
final class EdgesOfBox {
    private static final String EVERY_OTHER = "takes if x+y+z = [x+y+z]/2*2";

    private EdgesOfBox() {
    }

    static void all(Edges e) {
        left(e);
        slice(e);
        tally(e);
        judge(e);
        wax(e);
        pieces(e);
    }

    private static CheeseCube under(CheeseCube box, String text) {
        box.force(Tape.law(box, text));
        return box;
    }

    private static CheeseCube noneLeft() {
        return under(new CheeseCube(), "takes");
    }

    private static void left(Edges e) {
        e.edge(14, "NONE.", "what -1 and 4", c -> {
            CheeseCube box = new CheeseCube();
            Edges.none(c, box, "left", -1);
            Edges.none(c, box, "left", 4);
            Edges.noneFar(c, box, 0, "left", 0);
        });
        e.edge(14, "How many CELLS are LEFT (what 0)", "all of 1, all of 216, none", c -> {
            c.due("1", BoxTest.box(1, 1, 1).left(0), 1);
            c.due("216", BoxTest.box(6, 6, 6).left(0), 216);
            c.due("none", noneLeft().left(0), 0);
            CheeseCube box = BoxTest.box(1, 1, 1);
            box.hole(0, 0, 0, 0, 1, 0);
            c.due("none", box.left(0), 0);
        });
        e.edge(14, "what they WEIGH together (1)", "none, the least, the most; what is not LEFT has no weight", c -> {
            c.due("none", noneLeft().left(1), 0);
            c.due("1 each", new CheeseCube().left(1), 125);
            CheeseCube box = under(BoxTest.box(6, 6, 6), "weighs 1000");
            c.due("99 each", box.left(1), 216 * 99);
            box.hole(0, 0, 0, 0, 6, 0);
            c.due("six fewer", box.left(1), 210 * 99);
        });
        e.edge(14, "BARE sides of CELLS that are LEFT: those against CELLS that are not (within the BOX)",
                "a whole BOX, none LEFT, every other CELL", c -> {
            c.due("whole", new CheeseCube().left(2), 0);
            c.due("none", noneLeft().left(2), 0);
            c.due("one CELL", BoxTest.box(1, 1, 1).left(2), 0);
            c.due("every side within", under(new CheeseCube(), EVERY_OTHER).left(2), 3 * 4 * 25);
            c.due("every side of the largest", under(BoxTest.box(6, 6, 6), EVERY_OTHER).left(2), 3 * 5 * 36);
            c.due("one that is not, at a corner", under(new CheeseCube(), "takes if x+y+z=0").left(2), 3);
            c.due("one that is LEFT, at a corner", under(new CheeseCube(), "takes if x+y+z>0").left(2), 3);
            c.due("at the greatest corner", under(new CheeseCube(), "takes if x+y+z<12").left(2), 3);
            c.due("one that is LEFT, inside", under(new CheeseCube(), "takes if not (x=2 and y=2 and z=2)").left(2), 6);
        });
        e.edge(14, "INSIDE: CELLS that are LEFT, all six neighbours too", "SIZES 1, 2, 3, 6, a neighbour gone", c -> {
            c.due("1", BoxTest.box(1, 1, 1).left(3), 0);
            c.due("2", BoxTest.box(2, 6, 6).left(3), 0);
            c.due("2", BoxTest.box(6, 2, 6).left(3), 0);
            c.due("2", BoxTest.box(6, 6, 2).left(3), 0);
            c.due("3", BoxTest.box(3, 3, 3).left(3), 1);
            c.due("6", BoxTest.box(6, 6, 6).left(3), 64);
            c.due("none", noneLeft().left(3), 0);
            for (int cell : new int[] {7, 37, 42, 43, 44, 49, 79}) {
                String test = "takes if x+6*y+36*z=" + cell;
                c.due("without " + cell, under(BoxTest.box(3, 3, 3), test).left(3), 0);
            }
            for (int cell : new int[] {0, 1, 6, 8, 14, 36, 38, 50, 72, 78, 80, 86}) {
                String test = "takes if x+6*y+36*z=" + cell;
                c.due("without " + cell, under(BoxTest.box(3, 3, 3), test).left(3), 1);
            }
        });
    }

    private static void slice(Edges e) {
        e.edge(15, "NONE.", "AXIS -1 and 3, PLACES behind the last ones", c -> {
            int[] size = {2, 3, 4};
            CheeseCube box = BoxTest.box(2, 3, 4);
            for (int axis = 0; axis < 3; axis++) {
                int u = size[axis == 0 ? 1 : 0];
                int v = size[axis == 2 ? 1 : 2];
                c.due("the last", box.slice(axis, u - 1, v - 1), size[axis]);
                Edges.none(c, box, "slice", axis, u, 0);
                Edges.none(c, box, "slice", axis, 0, v);
                Edges.none(c, box, "slice", axis, -1, 0);
                Edges.none(c, box, "slice", axis, 0, -1);
                Edges.noneFar(c, box, 1, "slice", axis, 0, 0);
                Edges.noneFar(c, box, 2, "slice", axis, 0, 0);
            }
            Edges.none(c, box, "slice", -1, 0, 0);
            Edges.none(c, box, "slice", 3, 0, 0);
            Edges.noneFar(c, box, 0, "slice", 0, 0, 0);
        });
        e.edge(15, "How many CELLS of a row are LEFT.", "none, all, those at the ends", c -> {
            for (int axis = 0; axis < 3; axis++) {
                CheeseCube box = BoxTest.box(6, 6, 6);
                box.hole(axis, 5, 5, 0, 6, 0);
                c.due("none", box.slice(axis, 5, 5), 0);
                c.due("all", box.slice(axis, 4, 5), 6);
                box.hole(axis, 5, 4, 0, 1, 0);
                c.due("the first is gone", box.slice(axis, 5, 4), 5);
                box.hole(axis, 5, 4, 1, 1, 0);
                c.due("the last, too", box.slice(axis, 5, 4), 4);
            }
        });
    }

    private static void tally(Edges e) {
        e.edge(17, "ROWS, 8 at most", "the 8th, no room for a 9th", c -> {
            CheeseCube box = new CheeseCube();
            for (int i = 1; i <= 8; i++) {
                c.due("tally", box.tally(0, 0, 0, 5), i);
            }
            Edges.refused(c, box, -5, "tally", 0, 0, 0, 5);
            box.forget();
            c.due("room again", box.tally(0, 0, 0, 5), 1);
        });
        e.edge(17, "The first of these in that order.", "wrong numbers go ahead of no room", c -> {
            CheeseCube box = new CheeseCube();
            for (int i = 1; i <= 8; i++) {
                box.tally(0, 0, 0, 5);
            }
            Edges.refused(c, box, -1, "tally", 3, 0, 0, 5);
            Edges.refused(c, box, -1, "tally", 0, 5, 0, 5);
            Edges.refused(c, box, -1, "tally", 0, 0, 0, -1);
        });
        e.edge(17, "-1; -5.", "AXIS, PLACES and number one beyond", c -> {
            int[] size = {2, 3, 4};
            CheeseCube box = BoxTest.box(2, 3, 4);
            for (int axis = 0; axis < 3; axis++) {
                int u = size[axis == 0 ? 1 : 0];
                int v = size[axis == 2 ? 1 : 2];
                c.due("the last", box.tally(axis, u - 1, v - 1, 0), axis + 1);
                Edges.refused(c, box, -1, "tally", axis, u, 0, 0);
                Edges.refused(c, box, -1, "tally", axis, 0, v, 0);
                Edges.refused(c, box, -1, "tally", axis, -1, 0, 0);
                Edges.refused(c, box, -1, "tally", axis, 0, -1, 0);
                Edges.refused(c, box, -1, "tally", axis, 0, 0, -1);
                Edges.refused(c, box, -1, "tally", axis, 0, 0, 7);
                Edges.refusedFar(c, box, -1, 1, "tally", axis, 0, 0, 0);
                Edges.refusedFar(c, box, -1, 2, "tally", axis, 0, 0, 0);
                Edges.refusedFar(c, box, -1, 3, "tally", axis, 0, 0, 0);
            }
            Edges.refused(c, box, -1, "tally", -1, 0, 0, 0);
            Edges.refused(c, box, -1, "tally", 3, 0, 0, 0);
            Edges.refusedFar(c, box, -1, 0, "tally", 0, 0, 0, 0);
        });
        e.edge(17, "A ROW that was counted: how many there are.", "0 and 6 CELLS, the same row twice", c -> {
            CheeseCube box = BoxTest.box(6, 6, 6);
            c.due("0", box.tally(0, 0, 0, 0), 1);
            c.due("6", box.tally(0, 0, 0, 6), 2);
            c.due("6 again", box.tally(0, 0, 0, 6), 3);
            c.due("the first is not so", box.judge(), 0);
        });
        e.edge(18, "ROWS are none then: how many there were.", "of none, of one, of 8", c -> {
            CheeseCube box = new CheeseCube();
            c.due("none", box.forget(), 0);
            box.tally(0, 0, 0, 0);
            c.due("one", box.forget(), 1);
            c.due("none", box.forget(), 0);
            for (int i = 0; i < 9; i++) {
                box.tally(0, 0, 0, 0);
            }
            c.due("8", box.forget(), 8);
            c.due("all is so", box.judge(), -1);
            c.due("status is tally()'s", box.status(), -5);
        });
    }

    private static void judge(Edges e) {
        e.edge(19, "The first ROW that is not so. NONE.", "no ROW, all so, the first, the 8th", c -> {
            CheeseCube box = new CheeseCube();
            c.due("no ROW", box.judge(), -1);
            for (int i = 0; i < 7; i++) {
                box.tally(2, 0, 0, 5);
                c.due("all so", box.judge(), -1);
            }
            box.tally(2, 1, 0, 4);
            c.due("the 8th", box.judge(), 7);
            box.hole(2, 0, 0, 0, 1, 0);
            c.due("the first", box.judge(), 0);
            box.hole(2, 1, 0, 0, 1, 0);
            box.stop(0);
            c.due("all so", box.judge(), -1);
        });
        e.edge(19, "The first ROW that is not so. NONE.", "one fewer, one more, none", c -> {
            for (int many = 0; many <= 6; many++) {
                CheeseCube box = new CheeseCube();
                box.hole(1, 2, 2, 0, 3, 0);
                box.tally(1, 2, 2, many);
                c.due(many + " told of 2", box.judge(), many == 2 ? -1 : 0);
            }
            CheeseCube box = noneLeft();
            box.tally(0, 4, 4, 0);
            c.due("none are LEFT", box.judge(), -1);
            box.force(-1);
            c.due("5 are", box.judge(), 0);
        });
    }

    private static void wax(Edges e) {
        e.edge(20, "NONE (SIDES 0 .. 63).", "SIDES -1 and 64", c -> {
            CheeseCube box = new CheeseCube();
            Edges.none(c, box, "wax", -1, 0);
            Edges.none(c, box, "wax", 64, 0);
            Edges.noneFar(c, box, 0, "wax", 0, 0);
            c.due("0", box.wax(0, 0), 125);
            c.due("63", box.wax(63, 0), 27);
        });
        e.edge(20, "(0 .. 6)", "-1 and 7 red sides", c -> {
            CheeseCube box = BoxTest.box(1, 1, 1);
            Edges.none(c, box, "wax", 63, -1);
            Edges.none(c, box, "wax", 63, 7);
            Edges.noneFar(c, box, 1, "wax", 0, 0);
            for (int many = 0; many <= 6; many++) {
                c.due(many + " red", box.wax((1 << many) - 1, many), 1);
                c.due(many + " red, others", box.wax((1 << many) - 1, (many + 1) % 7), 0);
            }
        });
        e.edge(20, "(bits: x 0, x greatest, y 0, y greatest, z 0, z greatest)", "each alone", c -> {
            for (int side = 0; side < 6; side++) {
                CheeseCube box = BoxTest.box(2, 3, 4);
                int[] size = {12, 8, 6};
                c.due("SIDE " + side, box.wax(1 << side, 1), size[side / 2]);
                box.hole(side / 2 == 0 ? 1 : 0, 0, side == 5 ? 3 : 0, 0, 6, 0);
                int[] gone = {3, 0, 2, 0, 2, 2};
                c.due("SIDE " + side + " with a HOLE", box.wax(1 << side, 1), size[side / 2] - gone[side]);
            }
        });
        e.edge(20, "WAX on SIDES of the BOX", "each side of a BOX of six alone", c -> {
            for (int side = 0; side < 6; side++) {
                c.due("SIDE " + side, BoxTest.box(6, 6, 6).wax(1 << side, 1), 36);
                c.due("others", BoxTest.box(6, 6, 6).wax(1 << side, 0), 180);
            }
        });
        e.edge(20, "CELLS that are LEFT with just so many red sides", "none LEFT, a HOLE is no red side", c -> {
            for (int many = 0; many <= 6; many++) {
                c.due("none LEFT", noneLeft().wax(63, many), 0);
            }
            CheeseCube box = BoxTest.box(3, 3, 3);
            box.hole(2, 1, 1, 0, 1, 0);
            c.due("the one below it", box.wax(63, 0), 1);
            c.due("one red side", box.wax(63, 1), 5);
        });
    }

    private static void pieces(Edges e) {
        e.edge(22, "How many PIECES (i NONE)", "none LEFT, one, the most that can be", c -> {
            c.due("none", noneLeft().pieces(-1, 0), 0);
            c.due("one", new CheeseCube().pieces(-1, 0), 1);
            c.due("one CELL", BoxTest.box(1, 1, 1).pieces(-1, 1), 1);
            CheeseCube box = under(BoxTest.box(6, 6, 6), EVERY_OTHER);
            c.due("108", box.pieces(-1, 0), 108);
            c.due("the first", box.pieces(0, 1), 1);
            c.due("the last", box.pieces(107, 1), 215);
            c.due("it has", box.pieces(107, 0), 1);
            Edges.none(c, box, "pieces", 108, 0);
        });
        e.edge(22, "how many CELLS the i-th has (what 0), its lowest (1). NONE.", "i one behind the last, -2, far ones", c -> {
            CheeseCube box = new CheeseCube();
            for (int what = 0; what <= 1; what++) {
                Edges.none(c, box, "pieces", 1, what);
                Edges.none(c, box, "pieces", -2, what);
                Edges.noneFar(c, box, 0, "pieces", 0, what);
                Edges.none(c, noneLeft(), "pieces", 0, what);
            }
            c.due("the first has", box.pieces(0, 0), 125);
            c.due("its lowest", box.pieces(0, 1), 0);
        });
        e.edge(22, "how many CELLS the i-th has (what 0), its lowest (1). NONE.", "what -1 and 2", c -> {
            CheeseCube box = new CheeseCube();
            Edges.none(c, box, "pieces", 0, -1);
            Edges.none(c, box, "pieces", 0, 2);
            Edges.noneFar(c, box, 1, "pieces", 0, 0);
        });
        e.edge(22, "hang together by sides", "edges and corners do not do, nor the end of a row and the next row's first", c -> {
            c.due("an edge", under(BoxTest.box(2, 2, 1), "takes if x=y").pieces(-1, 0), 2);
            c.due("a corner", under(BoxTest.box(2, 2, 2), "takes if x+y+z>0 and x+y+z<3").pieces(-1, 0), 2);
            c.due("x 5 and x 0 of the next row", under(BoxTest.box(6, 6, 1), "takes if x>0 and x<5").pieces(-1, 0), 2);
            c.due("y 5 and y 0 of the next z", under(BoxTest.box(6, 6, 6), "takes if y>0 and y<5").pieces(-1, 0), 2);
            c.due("z 0 and z 5", under(BoxTest.box(6, 6, 6), "takes if z>0 and z<5").pieces(-1, 0), 2);
            c.due("x, y, z each", under(BoxTest.box(2, 2, 2), "takes if x=1 and z=0 or y=1 and z=1").pieces(-1, 0), 1);
        });
        e.edge(22, "hang together by sides", "about a corner, up and down along each AXIS", c -> {
            String[] gaps = {"x=1 and y=0", "x=1 and y=1", "y=1 and x=0", "y=1 and x=1"};
            int[][] flat = {{3, 2, 1}, {3, 2, 1}, {2, 3, 1}, {2, 3, 1}};
            for (int i = 0; i < gaps.length; i++) {
                c.due(gaps[i], under(BoxTest.box(flat[i][0], flat[i][1], 1), "takes if " + gaps[i]).pieces(-1, 0), 1);
            }
            c.due("x=1, z=0", under(BoxTest.box(3, 1, 2), "takes if x=1 and z=0").pieces(-1, 0), 1);
            c.due("x=1, z=1", under(BoxTest.box(3, 1, 2), "takes if x=1 and z=1").pieces(-1, 0), 1);
            c.due("y=1, z=0", under(BoxTest.box(1, 3, 2), "takes if y=1 and z=0").pieces(-1, 0), 1);
            c.due("z=1, x=0", under(BoxTest.box(2, 1, 3), "takes if z=1 and x=0").pieces(-1, 0), 1);
            c.due("z=1, y=1", under(BoxTest.box(1, 2, 3), "takes if z=1 and y=1").pieces(0, 0), 5);
        });
        e.edge(22, "in order of their lowest CELLS", "a PIECE with the greatest CELL is the first", c -> {
            CheeseCube box = under(BoxTest.box(3, 3, 3), "takes if not (x=0 and y=0 or y=0 and z=2 or x=2 and y=2 and z=0)");
            c.due("two", box.pieces(-1, 0), 2);
            c.due("the first has", box.pieces(0, 0), 5);
            c.due("lowest", box.pieces(0, 1), 0);
            c.due("the second has", box.pieces(1, 0), 1);
            c.due("lowest", box.pieces(1, 1), 14);
        });
    }
}
