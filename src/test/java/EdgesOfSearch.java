/** Boundary cases of promises 23, 27, 33: FEWEST, WIRES, ANTS. */
final class EdgesOfSearch {
    private EdgesOfSearch() {
    }

    static void all(Edges e) {
        fewestNumbers(e);
        fewestEnds(e);
        fewestOrder(e);
        wireNumbers(e);
        wires(e);
        antNumbers(e);
        ants(e);
    }

    private static CheeseCube under(CheeseCube box, String text) {
        box.force(Tape.law(box, text));
        return box;
    }

    /** All eight numbers of FEWEST; those not told are due to be NONE. */
    private static void fewest(Checks c, CheeseCube box, int goal, int n, int... due) {
        for (int what = 0; what < 8; what++) {
            int want = what < due.length ? due[what] : -1;
            c.due("fewest(" + goal + ", " + n + ", " + what + ")", box.fewest(goal, n, what), want);
        }
    }

    private static void fewestNumbers(Edges e) {
        e.edge(23, "FEWEST for an END (0, 1, 2)", "-1 and 3", c -> {
            CheeseCube box = BoxTest.box(2, 2, 2);
            for (int what = 0; what <= 7; what++) {
                Edges.none(c, box, "fewest", -1, 0, what);
                Edges.none(c, box, "fewest", 3, 0, what);
            }
            Edges.noneFar(c, box, 0, "fewest", 0, 0, 0);
        });
        e.edge(23, "with n (0 .. 216)", "-1 and 217", c -> {
            CheeseCube box = BoxTest.box(1, 1, 1);
            for (int goal = 0; goal <= 2; goal++) {
                Edges.none(c, box, "fewest", goal, -1, 0);
                Edges.none(c, box, "fewest", goal, -1, 1);
                Edges.none(c, box, "fewest", goal, 217, 0);
                Edges.none(c, box, "fewest", goal, 217, 1);
                Edges.noneFar(c, box, 1, "fewest", goal, 0, 1);
            }
            fewest(c, box, 0, 216, 0, 1);
            fewest(c, box, 1, 216, -1, 0);
            fewest(c, box, 2, 216, -1, 0);
            fewest(c, BoxTest.box(6, 6, 6), 2, 216, 0, 1);
        });
        e.edge(23, "AXIS, u, v of the first HOLE (2, 3, 4), of the second one (5, 6, 7)", "what -1 and 8", c -> {
            CheeseCube box = BoxTest.box(2, 2, 2);
            Edges.none(c, box, "fewest", 0, 1, -1);
            Edges.none(c, box, "fewest", 0, 1, 8);
            Edges.noneFar(c, box, 2, "fewest", 0, 1, 0);
            c.due("two HOLES", box.fewest(2, 4, 7), 1);
            Edges.none(c, box, "fewest", 2, 4, -1);
            Edges.none(c, box, "fewest", 2, 4, 8);
            c.due("one HOLE", box.fewest(2, 6, 4), 0);
            for (int what = 5; what <= 8; what++) {
                Edges.none(c, box, "fewest", 2, 6, what);
                Edges.none(c, box, "fewest", 2, 8, what);
            }
        });
        e.edge(23, "in how many ways (1; 0)", "none HOLE needed is one way, what can't be is none", c -> {
            CheeseCube box = BoxTest.box(2, 2, 2);
            fewest(c, box, 2, 8, 0, 1);
            fewest(c, box, 2, 7, -1, 0);
            fewest(c, box, 2, 3, -1, 0);
            fewest(c, box, 2, 9, -1, 0);
        });
        e.edge(23, "NONE (not by two; there are not so many).", "by none, by one, by two, not by two", c -> {
            CheeseCube box = BoxTest.box(4, 1, 1);
            fewest(c, box, 2, 4, 0, 1);
            fewest(c, box, 2, 3, 1, 8, 1, 0, 0);
            fewest(c, box, 2, 2, 2, 24, 1, 0, 0, 1, 1, 0);
            fewest(c, box, 2, 1, -1, 0);
            fewest(c, box, 2, 0, 1, 1, 0, 0, 0);
        });
    }

    private static void fewestEnds(Edges e) {
        e.edge(23, "0 no CELL that is LEFT is farther than n STEPS (from CELL to neighbour) from AIR", "n 0 to 3", c -> {
            CheeseCube box = BoxTest.box(5, 5, 5);
            fewest(c, box, 0, 3, 0, 1);
            fewest(c, box, 0, 2, 1, 39, 0, 0, 2);
            fewest(c, box, 0, 0, -1, 0);
            fewest(c, BoxTest.box(2, 2, 2), 0, 1, 0, 1);
            fewest(c, BoxTest.box(3, 3, 3), 0, 2, 0, 1);
            fewest(c, BoxTest.box(6, 6, 6), 0, 3, 0, 1);
            fewest(c, BoxTest.box(3, 3, 3), 0, 1, 1, 15, 0, 0, 1);
        });
        e.edge(23, "AIR (a CELL that is not LEFT; outside of the BOX)", "what a LAW took, what a HOLE took, none LEFT", c -> {
            fewest(c, under(BoxTest.box(3, 3, 3), "takes if x=1 and y=1 and z=0"), 0, 1, 0, 1);
            CheeseCube box = BoxTest.box(3, 3, 3);
            box.hole(0, 1, 1, 1, 1, 0);
            fewest(c, box, 0, 1, 0, 1);
            CheeseCube none = under(new CheeseCube(), "takes");
            fewest(c, none, 0, 0, 0, 1);
            fewest(c, none, 1, 0, 0, 1);
            fewest(c, none, 1, 1, -1, 0);
            fewest(c, none, 2, 0, 0, 1);
            fewest(c, none, 2, 1, -1, 0);
        });
        e.edge(23, "1 there are n PIECES at least", "n 0, as many as there are, one more", c -> {
            CheeseCube box = BoxTest.box(5, 1, 1);
            fewest(c, box, 1, 0, 0, 1);
            fewest(c, box, 1, 1, 0, 1);
            fewest(c, box, 1, 2, 1, 6, 1, 1, 0);
            fewest(c, box, 1, 3, 2, 4, 1, 1, 0, 1, 3, 0);
            fewest(c, box, 1, 4, -1, 0);
            box.hole(2, 2, 0, 0, 1, 0);
            fewest(c, box, 1, 2, 0, 1);
            fewest(c, box, 1, 3, -1, 0);
        });
        e.edge(23, "2 just n CELLS are LEFT", "all, none, one more than there are", c -> {
            CheeseCube one = BoxTest.box(1, 1, 1);
            fewest(c, one, 2, 1, 0, 1);
            fewest(c, one, 2, 0, 1, 3, 0, 0, 0);
            fewest(c, one, 2, 2, -1, 0);
            CheeseCube large = BoxTest.box(6, 6, 6);
            fewest(c, large, 2, 210, 1, 108, 0, 0, 0);
            fewest(c, large, 2, 209, -1, 0);
            fewest(c, large, 2, 205, 2, 3 * 216, 0, 0, 0, 1, 0, 0);
            fewest(c, large, 2, 204, 2, 108 * 107 / 2 - 3 * 216, 0, 0, 0, 0, 0, 1);
        });
    }

    private static void fewestOrder(Edges e) {
        e.edge(23, "HOLES in order of AXIS, then u, then v; the first pair, by its lower one", "the least, the last", c -> {
            fewest(c, BoxTest.box(2, 2, 2), 2, 5, 2, 24, 0, 0, 0, 1, 0, 0);
            fewest(c, under(BoxTest.box(3, 3, 3), "takes if not (x=2 and y=2)"), 2, 0, 1, 1, 2, 2, 2);
            fewest(c, under(BoxTest.box(3, 3, 3), "takes if not (y=2 and z=2)"), 2, 0, 1, 1, 0, 2, 2);
            fewest(c, under(BoxTest.box(3, 3, 3), "takes if not (x=1 and (y=0 or y=2))"), 2, 0, 2, 1, 2, 1, 0, 2, 1, 2);
            fewest(c, under(BoxTest.box(3, 3, 3), "takes if not (z=1 and (x=0 or x=2))"), 2, 0, 2, 1, 1, 0, 1, 1, 2, 1);
            fewest(c, under(BoxTest.box(3, 3, 3), "takes if not (y=2 and z=0 or x=0 and y=1)"), 2, 0, 2, 1, 0, 2, 0, 2, 0, 1);
            fewest(c, under(BoxTest.box(2, 2, 2), "takes if not (x+y+z=0 or x+y+z=3)"), 2, 0, 2, 9, 0, 0, 0, 0, 1, 1);
        });
        e.edge(23, "HOLES in order of AXIS, then u, then v", "each of the 108 lines of a BOX of six, the only one", c -> {
            String[] names = {"y=%d and z=%d", "x=%d and z=%d", "x=%d and y=%d"};
            for (int i = 0; i < 108; i++) {
                String test = String.format(names[i / 36], i / 6 % 6, i % 6);
                CheeseCube box = under(BoxTest.box(6, 6, 6), "takes if not (" + test + ")");
                fewest(c, box, 2, 0, 1, 1, i / 36, i / 6 % 6, i % 6);
            }
        });
        e.edge(23, "right through along an AXIS", "all lines of BOXES of unlike SIZES, no other ones", c -> {
            for (int size = 2; size <= 6; size++) {
                fewest(c, BoxTest.box(size, 1, 1), 2, size - 1, 1, 2 * size, 1, 0, 0);
                fewest(c, BoxTest.box(1, size, 1), 2, size - 1, 1, 2 * size, 0, 0, 0);
                fewest(c, BoxTest.box(1, 1, size), 2, size - 1, 1, 2 * size, 0, 0, 0);
                fewest(c, BoxTest.box(1, 1, size), 2, 0, 1, 1, 2, 0, 0);
            }
        });
        e.edge(23, "at most 2 HOLES more, right through along an AXIS", "beside 16 HOLES that stand", c -> {
            CheeseCube box = BoxTest.box(3, 3, 3);
            for (int i = 0; i < 16; i++) {
                box.hole(2, 0, 0, 0, 1, 0);
            }
            fewest(c, box, 2, 26, 0, 1);
            fewest(c, box, 2, 24, 1, 3, 0, 0, 0);
            fewest(c, box, 2, 23, 1, 24, 0, 0, 1);
            c.due("none has come", box.count(3), 16);
            c.due("LEFT", box.left(0), 26);
        });
        e.edge(23, "\"takes\" is asked with them", "a LAW that asks for no HOLE, for HOLES", c -> {
            fewest(c, under(BoxTest.box(3, 3, 3), "takes if holes > 0"), 2, 24, 1, 27, 0, 0, 0);
            fewest(c, under(BoxTest.box(3, 3, 3), "takes if holes = 1"), 2, 22, 2, 81, 0, 0, 0, 1, 0, 0);
            fewest(c, under(BoxTest.box(3, 3, 3), "takes if holes = 0 and z > 0"), 2, 6, 1, 6, 0, 0, 0);
            fewest(c, under(BoxTest.box(3, 3, 3), "takes if not holes > 0"), 2, 0, 0, 1);
        });
    }

    private static CheeseCube fourteen() {
        CheeseCube box = BoxTest.box(3, 5, 1);
        box.hole(2, 0, 0, 0, 1, 0);
        return box;
    }

    private static void wire(Checks c, CheeseCube box, int... due) {
        for (int i = -2; i < due.length - 2; i++) {
            c.due("wire(" + i + ")", box.wire(i), due[i + 2]);
        }
    }

    private static void wireNumbers(Edges e) {
        e.edge(27, "its i-th CELL. NONE.", "i -3, one behind the last, far ones", c -> {
            CheeseCube box = BoxTest.box(2, 2, 1);
            wire(c, box, 0, 1, 0, 1, 7, 6, -1, -1);
            Edges.none(c, box, "wire", 4);
            Edges.none(c, box, "wire", -3);
            for (int far : new int[] {Integer.MIN_VALUE, -1000, 14, 15, 216, 1000, Integer.MAX_VALUE}) {
                Edges.none(c, box, "wire", far);
            }
        });
        e.edge(27, "its i-th CELL. NONE.", "barred, none found, more than 14 CELLS", c -> {
            CheeseCube barred = BoxTest.box(3, 1, 1);
            barred.hole(2, 1, 0, 0, 1, 0);
            wire(c, barred, 1, 0, -1, -1);
            CheeseCube large = new CheeseCube();
            wire(c, large, 0, -1, -1, -1);
            CheeseCube fork = under(BoxTest.box(3, 3, 1), "takes if not (x=0 or y=1)");
            c.due("five CELLS", fork.left(0), 5);
            wire(c, fork, 0, 0, -1, -1);
        });
        e.edge(27, "whether it is barred (i -2: 1, 0), whether there is one (i NONE: 1, 0; NONE: more than 14 CELLS and not barred)",
                "all that can be", c -> {
            wire(c, BoxTest.box(2, 2, 2), 0, 1);
            wire(c, under(BoxTest.box(3, 3, 1), "takes if not (x=0 or y=1)"), 0, 0);
            wire(c, under(BoxTest.box(3, 1, 1), "takes if x=1"), 1, 0);
            wire(c, BoxTest.box(4, 4, 1), 0, -1);
            wire(c, under(BoxTest.box(4, 4, 2), "takes if x=1 or x=2 and y=0"), 1, 0);
            wire(c, BoxTest.box(6, 6, 6), 0, -1);
        });
        e.edge(27, "goes through all CELLS that are LEFT", "none LEFT, one, two", c -> {
            CheeseCube none = BoxTest.box(1, 1, 1);
            none.hole(0, 0, 0, 0, 1, 0);
            wire(c, none, 0, 1, -1, -1);
            wire(c, under(BoxTest.box(6, 6, 6), "takes"), 0, 1, -1, -1);
            wire(c, BoxTest.box(1, 1, 1), 0, 1, 0, -1);
            wire(c, BoxTest.box(1, 2, 1), 0, 1, 0, 6, -1);
            wire(c, under(BoxTest.box(6, 6, 6), "takes if x+y+z < 15"), 0, 1, 215, -1);
        });
    }

    private static void wires(Edges e) {
        e.edge(27, "are unlike by more than 1", "alike, unlike by 1, by 2, either way", c -> {
            wire(c, BoxTest.box(4, 1, 1), 0, 1, 0, 1, 2, 3, -1);
            wire(c, BoxTest.box(3, 1, 1), 0, 1, 0, 1, 2, -1);
            wire(c, under(BoxTest.box(4, 1, 1), "takes if x=0"), 0, 1, 1, 2, 3, -1);
            wire(c, under(BoxTest.box(3, 2, 1), "takes if y=1 and not x=1"), 1, 0, -1, -1);
            wire(c, under(BoxTest.box(4, 2, 1), "takes if x=0 or y=1 and not x=2"), 1, 0, -1, -1);
            CheeseCube large = new CheeseCube();
            c.due("63 and 62", large.wire(-2), 0);
            large.hole(2, 0, 0, 0, 1, 0);
            c.due("62 and 62", large.wire(-2), 0);
            large.hole(2, 2, 0, 0, 1, 0);
            c.due("61 and 62", large.wire(-2), 0);
            large.hole(2, 4, 0, 0, 1, 0);
            c.due("60 and 62", large.wire(-2), 1);
        });
        e.edge(27, "CELLS of which x, y, z together are even, and odd", "two neighbours at each of the 540 sides", c -> {
            int[] step = {1, 6, 36};
            for (int i = 0; i < 648; i++) {
                int cell = i % 216;
                int other = cell + step[i / 216];
                if (cell / step[i / 216] % 6 < 5 && (cell % 6 > 3 || cell % 36 > 28 || cell > 170 || cell % 5 == 0)) {
                    String test = "takes if not (x+6*y+36*z=" + cell + " or x+6*y+36*z=" + other + ")";
                    wire(c, under(BoxTest.box(6, 6, 6), test), 0, 1, cell, other, -1);
                }
            }
            wire(c, under(BoxTest.box(6, 6, 6), "takes if not (x=5 and y=5)"), 0, 1, 35, 71, 107, 143, 179, 215, -1);
            wire(c, under(BoxTest.box(6, 6, 6), "takes if not (x=y and x=z)"), 1, 0, -1);
        });
        e.edge(27, "or there are PIECES", "one is none, two bar", c -> {
            c.due("one", BoxTest.box(4, 1, 1).wire(-2), 0);
            CheeseCube two = BoxTest.box(4, 1, 1);
            two.hole(2, 1, 0, 0, 1, 0);
            c.due("two, unlike by 1", two.wire(-2), 1);
            c.due("no WIRE", two.wire(-1), 0);
            CheeseCube alike = BoxTest.box(6, 1, 1);
            alike.hole(2, 2, 0, 0, 1, 0);
            alike.hole(2, 3, 0, 0, 1, 0);
            c.due("two, alike", alike.wire(-2), 1);
        });
        e.edge(27, "found in at most 14 CELLS", "14 are, 15 are not, be they barred they are told", c -> {
            c.due("14", fourteen().left(0), 14);
            wire(c, fourteen(), 0, 1);
            c.due("the last of 14", fourteen().wire(13) >= 0 ? 1 : 0, 1);
            c.due("behind it", fourteen().wire(14), -1);
            wire(c, BoxTest.box(3, 5, 1), 0, -1, -1);
            CheeseCube barred = BoxTest.box(6, 3, 1);
            barred.hole(2, 0, 0, 0, 1, 0);
            barred.hole(2, 2, 0, 0, 1, 0);
            barred.hole(2, 4, 0, 0, 1, 0);
            c.due("15", barred.left(0), 15);
            wire(c, barred, 1, 0, -1, -1);
        });
        e.edge(27, "the first as a row of CELLS", "by its first CELL, then by the next", c -> {
            wire(c, BoxTest.box(2, 2, 2), 0, 1, 0, 1, 7, 6, 42, 36, 37, 43, -1);
            wire(c, BoxTest.box(1, 6, 2), 0, 1, 0, 6, 12, 18, 24, 30, 66, 60, 54, 48, 42, 36, -1);
            wire(c, under(BoxTest.box(3, 2, 1), "takes if x=0 and y=1"), 0, 1, 0, 1, 2, 8, 7, -1);
            wire(c, under(BoxTest.box(3, 3, 1), "takes if x=0 and y=0"), 0, 1, 1, 2, 8, 7, 6, 12, 13, 14, -1);
        });
        e.edge(27, "once each, from neighbour to neighbour, from any", "not from the lowest, not by the lowest neighbour", c -> {
            wire(c, under(BoxTest.box(3, 2, 1), "takes if x=0 and y=0 or x=2 and y=1"), 0, 1, 2, 1, 7, 6, -1);
            wire(c, under(BoxTest.box(3, 3, 1), "takes if x=0 or x=1 and y=0"), 0, 1, 2, 8, 7, 13, 14, -1);
            wire(c, under(BoxTest.box(3, 1, 2), "takes if z=0 and x=1"), 0, 1, 0, 36, 37, 38, 2, -1);
            wire(c, under(BoxTest.box(1, 3, 2), "takes if z=0 and y=1"), 0, 1, 0, 36, 42, 48, 12, -1);
            wire(c, under(BoxTest.box(3, 2, 1), "takes if y=0 and x=1"), 0, 1, 0, 6, 7, 8, 2, -1);
            wire(c, under(BoxTest.box(3, 2, 1), "takes if y=1 and x=1"), 0, 1, 6, 0, 1, 2, 8, -1);
            wire(c, under(BoxTest.box(2, 1, 3), "takes if x=1 and z=1"), 0, 1, 1, 0, 36, 72, 73, -1);
        });
        e.edge(27, "from neighbour to neighbour", "the end of a row and the next row's first are none", c -> {
            wire(c, under(BoxTest.box(6, 2, 1), "takes if not (x=5 and y=0 or x=0 and y=1)"), 1, 0, -1);
            wire(c, under(BoxTest.box(6, 6, 2), "takes if not (x=5 and y=5 and z=0 or x=0 and y=0 and z=1)"), 1, 0, -1);
        });
    }

    private static void ant(Checks c, CheeseCube box, int from, int to, int... way) {
        c.due("ant(" + from + ", " + to + ", NONE)", box.ant(from, to, -1), way.length - 1);
        for (int i = 0; i < way.length; i++) {
            c.due("ant(" + from + ", " + to + ", " + i + ")", box.ant(from, to, i), way[i]);
        }
        Edges.none(c, box, "ant", from, to, way.length);
    }

    private static void antNumbers(Edges e) {
        e.edge(33, "the i-th CELL (what i; 0: from). NONE", "the last, one behind it, -2, far ones", c -> {
            CheeseCube box = BoxTest.box(3, 1, 1);
            ant(c, box, 0, 2, 0, 1, 2);
            ant(c, box, 2, 0, 2, 1, 0);
            ant(c, box, 1, 1, 1);
            Edges.none(c, box, "ant", 0, 2, -2);
            Edges.noneFar(c, box, 2, "ant", 0, 2, 0);
        });
        e.edge(33, "ANTS: how many STEPS from a CELL to another one (what NONE)", "no CELL of the BOX", c -> {
            CheeseCube box = BoxTest.box(2, 3, 4);
            for (int what = -1; what <= 1; what++) {
                for (int cell : new int[] {-1, 2, 18, 144, 215, 216}) {
                    Edges.none(c, box, "ant", cell, 0, what);
                    Edges.none(c, box, "ant", 0, cell, what);
                    Edges.none(c, box, "ant", cell, cell, what);
                }
                Edges.noneFar(c, box, 0, "ant", 0, 0, what);
                Edges.noneFar(c, box, 1, "ant", 0, 0, what);
            }
            c.due("from corner to corner", box.ant(0, 36 * 3 + 12 + 1, -1), 6);
            c.due("of the largest", BoxTest.box(6, 6, 6).ant(0, 215, -1), 15);
        });
        e.edge(33, "NONE (one is not LEFT, or SHUT, too)", "from, to, both, with a HOLE, taken, SHUT", c -> {
            CheeseCube box = under(new CheeseCube(), "takes if x=4; shuts if y=4");
            box.hole(2, 0, 0, 0, 1, 0);
            for (int what = -1; what <= 1; what++) {
                for (int cell : new int[] {0, 4, 24, 28}) {
                    Edges.none(c, box, "ant", cell, 1, what);
                    Edges.none(c, box, "ant", 1, cell, what);
                    Edges.none(c, box, "ant", cell, cell, what);
                }
            }
            c.due("both are open", box.ant(1, 2, -1), 1);
        });
    }

    private static void ants(Edges e) {
        e.edge(33, "ANTS go through CELLS that are LEFT and not SHUT, by sides", "no way, one way about", c -> {
            CheeseCube box = under(BoxTest.box(3, 3, 1), "shuts if x=1 and day<2; shuts if x=1 and y<2");
            ant(c, box, 0, 2);
            box.terms(3, 2);
            ant(c, box, 0, 2, 0, 6, 12, 13, 14, 8, 2);
            ant(c, under(BoxTest.box(2, 2, 1), "shuts if not x=y"), 0, 7);
            ant(c, under(BoxTest.box(6, 2, 1), "takes if x>0 and x<5"), 5, 6);
            ant(c, under(BoxTest.box(6, 6, 2), "takes if y>0 and y<5"), 35, 36);
        });
        e.edge(33, "STEPS (from CELL to neighbour)", "each of the 540 sides within a BOX of six", c -> {
            int[] step = {1, 6, 36};
            for (int axis = 0; axis < 3; axis++) {
                CheeseCube box = BoxTest.box(6, 6, 6);
                for (int cell = 0; cell < 216; cell++) {
                    if (cell / step[axis] % 6 < 5) {
                        c.due("up from " + cell, box.ant(cell, cell + step[axis], -1), 1);
                        c.due("down to " + cell, box.ant(cell + step[axis], cell, -1), 1);
                    }
                }
            }
        });
        e.edge(33, "the first as a row of CELLS", "of ways as short, the lower CELL at each STEP", c -> {
            CheeseCube box = BoxTest.box(2, 2, 2);
            ant(c, box, 0, 43, 0, 1, 7, 43);
            ant(c, box, 43, 0, 43, 7, 1, 0);
            ant(c, box, 1, 42, 1, 0, 6, 42);
            ant(c, box, 36, 7, 36, 0, 1, 7);
            ant(c, under(BoxTest.box(2, 2, 2), "shuts if x=1 and y=0 and z=0"), 0, 43, 0, 6, 7, 43);
        });
        e.edge(33, "the fewest STEPS", "the longest way of a BOX of six", c -> {
            CheeseCube box = under(BoxTest.box(6, 6, 1), "shuts if y=1 and x<5; shuts if y=3 and x>0");
            int[] way = {0, 1, 2, 3, 4, 5, 11, 17, 16, 15, 14, 13, 12, 18, 24, 25, 26, 27, 28, 29};
            ant(c, box, 0, 29, way);
        });
    }
}
