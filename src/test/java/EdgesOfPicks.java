/** Boundary cases of promises 28 to 32: SCREWS, COUNTS. */
final class EdgesOfPicks {
    private EdgesOfPicks() {
    }

    static void all(Edges e) {
        screw(e);
        meet(e);
        told(e);
        fits(e);
        firstFit(e);
    }

    private static void screw(Edges e) {
        e.edge(28, "SCREWS, 8 at most", "the 8th, no room for a 9th", c -> {
            CheeseCube box = new CheeseCube();
            for (int i = 1; i <= 8; i++) {
                c.due("screw", box.screw(0, 0, 0, 0, 1), i);
            }
            Edges.refused(c, box, -5, "screw", 0, 0, 0, 0, 1);
            c.due("of 8", box.unscrew(), 8);
            c.due("room again", box.screw(0, 0, 0, 0, 1), 1);
        });
        e.edge(28, "The first of these in that order.", "wrong numbers go ahead of no room", c -> {
            CheeseCube box = new CheeseCube();
            for (int i = 1; i <= 8; i++) {
                box.screw(0, 0, 0, 0, 1);
            }
            Edges.refused(c, box, -1, "screw", 0, 5, 0, 0, 1);
            Edges.refused(c, box, -1, "screw", 0, 0, 0, 0, 7);
        });
        e.edge(28, "along an AXIS at PLACES from an END so DEEP", "each number one beyond", c -> {
            int[] size = {2, 3, 4};
            CheeseCube box = BoxTest.box(2, 3, 4);
            for (int axis = 0; axis < 3; axis++) {
                int u = size[axis == 0 ? 1 : 0];
                int v = size[axis == 2 ? 1 : 2];
                c.due("the last PLACES, DEEP 1", box.screw(axis, u - 1, v - 1, 0, 1), 2 * axis + 1);
                c.due("the last PLACES, DEEP 6", box.screw(axis, u - 1, v - 1, 1, 6), 2 * axis + 2);
                Edges.refused(c, box, -1, "screw", axis, u, 0, 0, 1);
                Edges.refused(c, box, -1, "screw", axis, 0, v, 0, 1);
                Edges.refused(c, box, -1, "screw", axis, -1, 0, 0, 1);
                Edges.refused(c, box, -1, "screw", axis, 0, -1, 0, 1);
                Edges.refusedFar(c, box, -1, 1, "screw", axis, 0, 0, 0, 1);
                Edges.refusedFar(c, box, -1, 2, "screw", axis, 0, 0, 0, 1);
            }
            int[][] wrong = {{-1, 0, 0, 0, 1}, {3, 0, 0, 0, 1}, {0, 0, 0, -1, 1}, {0, 0, 0, 2, 1}, {0, 0, 0, 0, 0},
                {0, 0, 0, 0, 7}, {0, 0, 0, 0, -1}};
            for (int[] with : wrong) {
                Edges.refused(c, box, -1, "screw", with);
            }
            for (int place : new int[] {0, 3, 4}) {
                Edges.refusedFar(c, box, -1, place, "screw", 0, 0, 0, 0, 1);
            }
        });
        e.edge(29, "SCREWS are none then: how many there were.", "of none, of one", c -> {
            CheeseCube box = new CheeseCube();
            c.due("none", box.unscrew(), 0);
            box.screw(0, 0, 0, 0, 1);
            box.screw(0, 0, 0, 0, 0);
            c.due("one", box.unscrew(), 1);
            c.due("status is screw()'s", box.status(), -1);
            c.due("none", box.unscrew(), 0);
            c.due("none MEET", box.meet(1), 0);
        });
    }

    private static void meet(Edges e) {
        e.edge(30, "How many pairs of SCREWS MEET (what 0), the most that never do (1), which, as bits (2). NONE.",
                "what -1 and 3", c -> {
            CheeseCube box = new CheeseCube();
            Edges.none(c, box, "meet", -1);
            Edges.none(c, box, "meet", 3);
            Edges.noneFar(c, box, 0, "meet", 0);
        });
        e.edge(30, "The most of them that never MEET; the lowest as bits.", "no SCREW, one, 8 of which all MEET, or none", c -> {
            CheeseCube box = new CheeseCube();
            meets(c, box, 0, 0, 0);
            box.screw(2, 0, 0, 0, 6);
            meets(c, box, 0, 1, 1);
            for (int i = 1; i < 8; i++) {
                box.screw(2, 0, 0, 0, 6);
            }
            meets(c, box, 28, 1, 1);
            box.unscrew();
            for (int i = 0; i < 8; i++) {
                box.screw(2, i % 5, i / 5, 0, 6);
            }
            meets(c, box, 0, 8, 255);
        });
        e.edge(30, "the lowest as bits", "of two sets as large", c -> {
            CheeseCube box = new CheeseCube();
            box.screw(0, 0, 0, 0, 6);
            box.screw(1, 0, 0, 0, 6);
            meets(c, box, 1, 1, 1);
            box.screw(1, 1, 0, 0, 6);
            meets(c, box, 2, 2, 6);
            box.screw(0, 1, 0, 0, 6);
            meets(c, box, 4, 2, 6);
            box.screw(0, 4, 4, 0, 6);
            meets(c, box, 4, 3, 16 + 6);
        });
        e.edge(30, "the most that never do (1), which, as bits (2)", "asked ahead of the pairs", c -> {
            for (int what = 0; what <= 2; what++) {
                CheeseCube box = new CheeseCube();
                box.screw(0, 0, 0, 0, 6);
                box.screw(1, 0, 0, 0, 6);
                c.due("what " + what, box.meet(what), 1);
                box.unscrew();
                c.due("none: what " + what, box.meet(what), 0);
            }
        });
        e.edge(30, "two MEET, if they have a CELL in common", "the last CELL of each, one CELL short of it", c -> {
            for (int axis = 0; axis < 3; axis++) {
                CheeseCube box = new CheeseCube();
                box.screw(axis, 1, 1, 0, 3);
                box.screw(axis, 1, 1, 1, 2);
                meets(c, box, 0, 2, 3);
                box.unscrew();
                box.screw(axis, 1, 1, 0, 3);
                box.screw(axis, 1, 1, 1, 3);
                meets(c, box, 1, 1, 1);
            }
            CheeseCube across = new CheeseCube();
            across.screw(0, 0, 0, 0, 3);
            across.screw(1, 2, 0, 0, 1);
            across.screw(2, 2, 0, 1, 5);
            across.screw(1, 3, 0, 0, 1);
            across.screw(2, 0, 0, 1, 4);
            meets(c, across, 3, 3, 1 + 8 + 16);
        });
        e.edge(30, "SCREWS, 8 at most: along an AXIS at PLACES from an END so DEEP", "they end where the BOX ends", c -> {
            CheeseCube box = new CheeseCube();
            box.screw(0, 0, 0, 0, 5);
            box.screw(0, 1, 0, 0, 6);
            box.screw(0, 0, 1, 0, 6);
            meets(c, box, 0, 3, 7);
            box.unscrew();
            box.screw(0, 0, 0, 0, 2);
            box.screw(0, 0, 0, 1, 3);
            meets(c, box, 0, 2, 3);
            box.terms(0, 4);
            meets(c, box, 1, 1, 1);
            box.terms(0, 6);
            meets(c, box, 0, 2, 3);
        });
    }

    private static void meets(Checks c, CheeseCube box, int pairs, int most, int bits) {
        c.due("pairs", box.meet(0), pairs);
        c.due("the most", box.meet(1), most);
        c.due("which", box.meet(2), bits);
    }

    private static void told(Edges e) {
        e.edge(31, "A COUNT by x (way 0), by y (1) at a PLACE: what it was (0 at first). -1.", "way -1 and 2, PLACE -1 and 6", c -> {
            CheeseCube box = BoxTest.box(1, 1, 1);
            Edges.refused(c, box, -1, "told", -1, 0, 1);
            Edges.refused(c, box, -1, "told", 2, 0, 1);
            Edges.refusedFar(c, box, -1, 0, "told", 0, 0, 1);
            for (int way = 0; way <= 1; way++) {
                Edges.refused(c, box, -1, "told", way, -1, 1);
                Edges.refused(c, box, -1, "told", way, 6, 1);
                Edges.refusedFar(c, box, -1, 1, "told", way, 0, 1);
                c.due("PLACE 5 is beyond the BOX", box.told(way, 5, 1), 0);
                c.due("what it was", box.told(way, 5, 0), 1);
            }
        });
        e.edge(31, "COUNTS told by x, by y (0 .. 6 each)", "-1 and 7", c -> {
            CheeseCube box = BoxTest.box(1, 1, 1);
            for (int way = 0; way <= 1; way++) {
                Edges.refused(c, box, -1, "told", way, 0, -1);
                Edges.refused(c, box, -1, "told", way, 0, 7);
                Edges.refusedFar(c, box, -1, 2, "told", way, 0, 0);
                c.due("6 is more than a BOX of one has", box.told(way, 0, 6), 0);
                Edges.refused(c, box, -1, "told", way, 0, 7);
                c.due("a REFUSED one changes nothing", box.told(way, 0, 0), 6);
                c.due("0", box.told(way, 0, 0), 0);
            }
        });
        e.edge(31, "what it was (0 at first)", "each of 12 is one of its own", c -> {
            CheeseCube box = new CheeseCube();
            for (int i = 0; i < 12; i++) {
                c.due("at first " + i, box.told(i / 6, i % 6, 1 + i % 6), 0);
            }
            for (int i = 0; i < 12; i++) {
                c.due("then " + i, box.told(i / 6, i % 6, 0), 1 + i % 6);
            }
        });
    }

    private static CheeseCube counts(CheeseCube box, int[] byX, int[] byY) {
        for (int x = 0; x < byX.length; x++) {
            box.told(0, x, byX[x]);
        }
        for (int y = 0; y < byY.length; y++) {
            box.told(1, y, byY[y]);
        }
        return box;
    }

    private static void fits(Checks c, CheeseCube box, int ways, int... sets) {
        c.due("ways", box.fits(-1), ways);
        for (int x = 0; x < sets.length; x++) {
            c.due("set at x " + x, box.fits(x), sets[x]);
        }
    }

    private static void fits(Edges e) {
        e.edge(32, "the set of y at x in the first. NONE.", "x -2, the last, the one behind it", c -> {
            for (int size = 1; size <= 6; size++) {
                CheeseCube box = BoxTest.box(size, 7 - size, 1);
                c.due("the last", box.fits(size - 1), 0);
                Edges.none(c, box, "fits", size);
                Edges.none(c, box, "fits", -2);
                Edges.noneFar(c, box, 0, "fits", 0);
            }
        });
        e.edge(32, "in how many ways (x NONE; 1,000,000,000 at most)", "none, one, the most of six by six", c -> {
            fits(c, new CheeseCube(), 1, 0, 0, 0, 0, 0, -1);
            fits(c, counts(BoxTest.box(1, 1, 1), new int[] {1}, new int[] {0}), 0, -1, -1);
            fits(c, counts(BoxTest.box(1, 1, 1), new int[] {1}, new int[] {1}), 1, 1, -1);
            int[] three = {3, 3, 3, 3, 3, 3};
            fits(c, counts(BoxTest.box(6, 6, 6), three, three), 297200, 7, 7, 7, 56, 56, 56, -1);
            int[] six = {6, 6, 6, 6, 6, 6};
            fits(c, counts(BoxTest.box(6, 6, 1), six, six), 1, 63, 63, 63, 63, 63, 63, -1);
        });
        e.edge(32, "(of PLACES in the BOX)", "what is told behind the last PLACE", c -> {
            CheeseCube box = counts(BoxTest.box(2, 2, 2), new int[] {1, 1, 6, 0, 5}, new int[] {1, 1, 3, 4});
            fits(c, box, 2, 1, 2, -1);
            box.terms(0, 3);
            fits(c, box, 0, -1, -1, -1, -1);
            box.terms(0, 2);
            box.terms(1, 3);
            fits(c, box, 0, -1, -1, -1);
            box.terms(1, 1);
            fits(c, box, 0, -1, -1, -1);
            box.terms(0, 1);
            fits(c, box, 1, 1, -1);
        });
        e.edge(32, "there are just so many", "more than the BOX has, sums unlike", c -> {
            fits(c, counts(BoxTest.box(2, 2, 2), new int[] {3, 0}, new int[] {2, 1}), 0, -1, -1);
            fits(c, counts(BoxTest.box(2, 2, 2), new int[] {2, 1}, new int[] {3, 0}), 0, -1, -1);
            fits(c, counts(BoxTest.box(2, 2, 2), new int[] {2, 1}, new int[] {2, 2}), 0, -1, -1);
            fits(c, counts(BoxTest.box(2, 2, 2), new int[] {2, 2}, new int[] {2, 1}), 0, -1, -1);
            fits(c, counts(BoxTest.box(2, 2, 2), new int[] {2, 0}, new int[] {1, 1}), 1, 3, 0, -1);
            fits(c, counts(BoxTest.box(2, 2, 2), new int[] {0, 2}, new int[] {2, 0}), 0, -1, -1);
            fits(c, counts(BoxTest.box(6, 1, 1), new int[] {1, 1, 1, 1, 1, 1}, new int[] {6}), 1, 1, 1, 1, 1, 1, 1);
            fits(c, counts(BoxTest.box(1, 6, 1), new int[] {6}, new int[] {1, 1, 1, 1, 1, 1}), 1, 63, -1);
            fits(c, counts(BoxTest.box(6, 1, 1), new int[] {1, 1, 1, 0, 1, 1}, new int[] {6}), 0, -1);
            for (int x = 0; x < 6; x++) {
                for (int many = 2; many <= 6; many++) {
                    CheeseCube box = BoxTest.box(6, 3, 1);
                    box.told(0, x, 1);
                    box.told(1, 0, many);
                    fits(c, box, 0, -1, -1, -1, -1, -1, -1, -1);
                    box.told(1, 0, 0);
                    box.told(1, 1, many);
                    fits(c, box, 0, -1, -1, -1, -1, -1, -1, -1);
                }
            }
        });
    }

    private static void firstFit(Edges e) {
        e.edge(32, "the first as a row of sets of y, by x, lower bits ahead", "x 0 has the lowest set that can be", c -> {
            int[] one = {1, 1, 1, 1, 1, 1};
            fits(c, counts(BoxTest.box(6, 6, 6), one, one), 720, 1, 2, 4, 8, 16, 32, -1);
            fits(c, counts(BoxTest.box(3, 3, 1), new int[] {1, 1, 1}, new int[] {0, 2, 1}), 3, 2, 2, 4, -1);
            fits(c, counts(BoxTest.box(3, 3, 1), new int[] {0, 2, 1}, new int[] {1, 1, 1}), 3, 0, 3, 4, -1);
            fits(c, counts(BoxTest.box(4, 2, 1), new int[] {1, 1, 1, 1}, new int[] {2, 2}), 6, 1, 1, 2, 2, -1);
        });
        e.edge(32, "of those with that x, with that y, there are just so many", "one HOLE at each of 36 PLACES", c -> {
            for (int i = 0; i < 36; i++) {
                CheeseCube box = BoxTest.box(6, 6, 6);
                box.told(0, i / 6, 1);
                box.told(1, i % 6, 1);
                c.due("one way", box.fits(-1), 1);
                for (int x = 0; x < 6; x++) {
                    c.due("x " + x, box.fits(x), x == i / 6 ? 1 << i % 6 : 0);
                }
            }
        });
        e.edge(32, "the first as a row of sets of y, by x", "each x has as many as none other", c -> {
            int[] byX = {4, 0, 3, 5, 1, 2};
            fits(c, counts(BoxTest.box(6, 5, 1), byX, new int[] {5, 4, 3, 2, 1}), 1, 15, 0, 7, 31, 1, 3, -1);
            int[] back = {1, 5, 2, 0, 4, 3};
            fits(c, counts(BoxTest.box(6, 5, 1), back, new int[] {1, 2, 3, 4, 5}), 1, 16, 31, 24, 0, 30, 28, -1);
        });
        e.edge(32, "HOLES right through along z, at PLACES of which", "HOLES and a LAW that stand are aside", c -> {
            CheeseCube box = counts(BoxTest.box(2, 2, 2), new int[] {1, 1}, new int[] {1, 1});
            box.hole(2, 0, 0, 0, 6, 0);
            box.force(Tape.law(box, "takes"));
            fits(c, box, 2, 1, 2, -1);
        });
    }
}
