/** Boundary cases of promises 16, 21, 26: VAST boxes, WAX on them, ANEW. */
final class EdgesOfVast {
    private EdgesOfVast() {
    }

    static void all(Edges e) {
        vast(e);
        vastHoles(e);
        vastMeetings(e);
        dipped(e);
        anew(e);
    }

    private static void vast(Edges e) {
        e.edge(16, "VAST: of a box of sizes 1 .. 1,000", "0 and 1001 of each", c -> {
            CheeseCube box = new CheeseCube();
            for (int i = 0; i < 3; i++) {
                int[] sizes = {1000, 1000, 1000};
                sizes[i] = 0;
                Edges.none(c, box, "vast", sizes);
                sizes[i] = 1001;
                Edges.none(c, box, "vast", sizes);
                sizes[i] = -1;
                Edges.none(c, box, "vast", sizes);
                Edges.noneFar(c, box, i, "vast", sizes);
                sizes[i] = 1;
                c.due("1", box.vast(sizes[0], sizes[1], sizes[2]), 1000000);
            }
            c.due("1000 each", box.vast(1000, 1000, 1000), 1000000000L);
            c.due("1 each", box.vast(1, 1, 1), 1);
        });
        e.edge(16, "how many CELLS are left", "none", c -> {
            CheeseCube box = new CheeseCube();
            box.hole(2, 0, 0, 0, 1, 0);
            c.due("one CELL", box.vast(1, 1, 1), 0);
            c.due("a row", box.vast(1, 1, 1000), 0);
            for (int i = 1; i < 16; i++) {
                box.hole(2, i % 4, i / 4, 0, 1, 0);
            }
            c.due("sixteen rows", box.vast(4, 4, 1000), 0);
            c.due("in the vastest", box.vast(1000, 1000, 1000), 1000000000L - 16000);
            c.due("three by three of them", box.vast(3, 3, 1000), 0);
            c.due("beside them", box.vast(5, 4, 1000), 4000);
        });
        e.edge(16, "(no LEANING; those whose PLACES are not there aside; no LAW)", "the last PLACE, the one behind", c -> {
            for (int axis = 0; axis < 3; axis++) {
                CheeseCube box = new CheeseCube();
                box.hole(axis, 2, 3, 0, 1, 0);
                int[] sizes = {3, 3, 3};
                sizes[axis == 2 ? 1 : 2] = 4;
                c.due("there", box.vast(sizes[0], sizes[1], sizes[2]), 36 - 3);
                sizes[axis == 2 ? 1 : 2] = 3;
                c.due("v 3 is not there", box.vast(sizes[0], sizes[1], sizes[2]), 27);
                sizes[axis == 2 ? 1 : 2] = 4;
                sizes[axis == 0 ? 1 : 0] = 2;
                c.due("u 2 is not there", box.vast(sizes[0], sizes[1], sizes[2]), 24);
            }
        });
        e.edge(16, "(no LEANING; those whose PLACES are not there aside; no LAW)", "LEANING, LAW, END aside", c -> {
            CheeseCube box = new CheeseCube();
            box.hole(2, 4, 4, 1, 1, 1);
            box.hole(2, 0, 0, 1, 1, -1);
            box.force(Tape.law(box, "takes"));
            c.due("two rows", box.vast(5, 5, 1000), 25000 - 2000);
        });
    }

    private static void vastHoles(Edges e) {
        e.edge(16, "each right through", "DEEP 1, and the same line twice", c -> {
            CheeseCube box = new CheeseCube();
            for (int axis = 0; axis < 3; axis++) {
                box.hole(axis, 4, 4, 0, 1, 0);
                box.hole(axis, 4, 4, 1, 2, 0);
            }
            c.due("three lines that meet", box.vast(1000, 1000, 1000), 1000000000L - 2998);
            c.due("in the BOX", box.vast(5, 5, 5), 125 - 13);
        });
        e.edge(16, "each right through", "two lines of each two AXES, in the one PLACE that they share", c -> {
            int[][] pairs = {{0, 1, 2, 1, 3, 2}, {0, 1, 2, 2, 3, 1}, {1, 3, 2, 2, 3, 1}};
            int[][] apart = {{0, 1, 2, 1, 3, 1}, {0, 1, 2, 2, 3, 2}, {1, 3, 2, 2, 2, 1}};
            for (int i = 0; i < 3; i++) {
                c.due("meet", twoLines(pairs[i]).vast(10, 10, 10), 1000 - 19);
                c.due("pass", twoLines(apart[i]).vast(10, 10, 10), 1000 - 20);
            }
        });
        e.edge(16, "each right through", "lines of two AXES that meet, that pass by one another", c -> {
            CheeseCube box = new CheeseCube();
            box.hole(0, 1, 2, 0, 1, 0);
            box.hole(1, 3, 2, 0, 1, 0);
            c.due("meet at z 2", box.vast(10, 10, 10), 1000 - 19);
            box.hole(1, 3, 3, 0, 1, 0);
            c.due("z 3 passes by", box.vast(10, 10, 10), 1000 - 29);
            box.hole(2, 3, 1, 0, 1, 0);
            c.due("meets the first two at once, the third alone", box.vast(10, 10, 10), 1000 - 29 - 8);
            box.hole(2, 3, 2, 0, 1, 0);
            c.due("meets two apart", box.vast(10, 10, 10), 1000 - 29 - 8 - 8);
            c.due("without z 2, z 3", box.vast(10, 10, 2), 200 - 4);
        });
    }

    private static void vastMeetings(Edges e) {
        e.edge(16, "those whose PLACES are not there aside", "three lines that meet in x 3, y 1, z 2: with it, one short of it", c -> {
            int[][] lines = {{0, 1, 2}, {1, 3, 2}, {2, 3, 1}};
            int[][] orders = {{0, 1, 2}, {0, 2, 1}, {1, 0, 2}, {1, 2, 0}, {2, 0, 1}, {2, 1, 0}};
            for (int[] order : orders) {
                CheeseCube box = new CheeseCube();
                for (int line : order) {
                    box.hole(lines[line][0], lines[line][1], lines[line][2], 0, 1, 0);
                }
                for (int i = 0; i < 27; i++) {
                    int x = 3 + i % 3;
                    int y = 1 + i / 3 % 3;
                    int z = 2 + i / 9;
                    int taken = (y > 1 && z > 2 ? x : 0) + (x > 3 && z > 2 ? y : 0) + (x > 3 && y > 1 ? z : 0);
                    int again = x > 3 && y > 1 && z > 2 ? 2 : 0;
                    c.due(x + " " + y + " " + z, box.vast(x, y, z), x * y * z - taken + again);
                }
            }
        });
        e.edge(16, "those whose PLACES are not there aside", "two lines that meet, of each two AXES", c -> {
            int[][] lines = {{0, 1, 2}, {1, 3, 2}, {2, 3, 1}};
            for (int i = 0; i < 6 * 27; i++) {
                int one = i / 54;
                int other = (one + 1 + i / 27 % 2) % 3;
                int[] sizes = {3 + i % 3, 1 + i / 3 % 3, 2 + i / 9 % 3};
                boolean[] there = {sizes[1] > 1 && sizes[2] > 2, sizes[0] > 3 && sizes[2] > 2, sizes[0] > 3 && sizes[1] > 1};
                int taken = (there[one] ? sizes[one] : 0) + (there[other] ? sizes[other] : 0);
                CheeseCube box = twoLines(new int[] {lines[one][0], lines[one][1], lines[one][2],
                    lines[other][0], lines[other][1], lines[other][2]});
                c.due("lines " + one + " and " + other + " in " + sizes[0] + " " + sizes[1] + " " + sizes[2],
                        box.vast(sizes[0], sizes[1], sizes[2]),
                        sizes[0] * sizes[1] * sizes[2] - taken + (there[one] && there[other] ? 1 : 0));
            }
        });
        e.edge(16, "each right through", "two, three lines that meet in the last CELL of the box, wherever that is", c -> {
            for (int cell = 0; cell < 125; cell++) {
                int x = cell % 5;
                int y = cell / 5 % 5;
                int z = cell / 25;
                int[][] lines = {{0, y, z}, {1, x, z}, {2, x, y}};
                int[] sizes = {x + 1, y + 1, z + 1};
                int whole = sizes[0] * sizes[1] * sizes[2];
                for (int one = 0; one < 3; one++) {
                    int other = (one + 1) % 3;
                    int third = (one + 2) % 3;
                    CheeseCube box = twoLines(new int[] {lines[one][0], lines[one][1], lines[one][2],
                        lines[other][0], lines[other][1], lines[other][2]});
                    int two = whole - sizes[one] - sizes[other] + 1;
                    c.due("two in " + x + " " + y + " " + z, box.vast(sizes[0], sizes[1], sizes[2]), two);
                    box.hole(third, lines[third][1], lines[third][2], 0, 1, 0);
                    int three = two - sizes[third] + 1;
                    c.due("three in " + x + " " + y + " " + z, box.vast(sizes[0], sizes[1], sizes[2]), three);
                }
            }
        });
        e.edge(16, "how many CELLS are left", "lines that meet by threes, twice, in a box of unlike sizes", c -> {
            int[][] lines = {{1, 3, 2}, {2, 4, 1}, {0, 1, 2}, {2, 3, 1}, {1, 4, 2}};
            for (int first = 0; first < 5; first++) {
                CheeseCube box = new CheeseCube();
                for (int i = 0; i < 5; i++) {
                    int[] line = lines[(first + i) % 5];
                    box.hole(line[0], line[1], line[2], 0, 1, 0);
                }
                c.due("two by threes", box.vast(5, 6, 7), 210 - 5 - 2 * 5 - 2 * 6);
                c.due("without x 4", box.vast(4, 6, 7), 168 - 4 - 5 - 6);
                c.due("without z 2", box.vast(5, 6, 2), 60 - 2 * 2);
                c.due("without y 1", box.vast(5, 1, 7), 35 - 2);
                c.due("as vast as it may be", box.vast(998, 999, 1000), 998L * 999 * 1000 - 998 - 2 * 998 - 2 * 999);
            }
        });
    }

    private static CheeseCube twoLines(int[] lines) {
        CheeseCube box = new CheeseCube();
        box.hole(lines[0], lines[1], lines[2], 0, 1, 0);
        box.hole(lines[3], lines[4], lines[5], 0, 1, 0);
        return box;
    }

    private static void dipped(Edges e) {
        e.edge(21, "The same of a whole box of sizes 1 .. 1,000.", "0 and 1001 of each", c -> {
            CheeseCube box = new CheeseCube();
            for (int i = 0; i < 3; i++) {
                int[] with = {1000, 1000, 1000, 0, 0};
                with[i] = 0;
                Edges.none(c, box, "dipped", with);
                with[i] = 1001;
                Edges.none(c, box, "dipped", with);
                with[i] = -1;
                Edges.none(c, box, "dipped", with);
                Edges.noneFar(c, box, i, "dipped", with);
                with[i] = 1;
                c.due("1", new Call("dipped", with).on(box), 1000000);
            }
            c.due("no SIDE of 1000 each", box.dipped(1000, 1000, 1000, 0, 0), 1000000000L);
        });
        e.edge(21, "WAX on SIDES of the BOX", "SIDES -1 and 64", c -> {
            CheeseCube box = new CheeseCube();
            Edges.none(c, box, "dipped", 2, 2, 2, -1, 0);
            Edges.none(c, box, "dipped", 2, 2, 2, 64, 0);
            Edges.noneFar(c, box, 3, "dipped", 2, 2, 2, 0, 0);
            c.due("63", box.dipped(2, 2, 2, 63, 3), 8);
        });
        e.edge(21, "with just so many red sides", "-1 and 7, each of 0 to 6", c -> {
            CheeseCube box = new CheeseCube();
            Edges.none(c, box, "dipped", 1, 1, 1, 63, -1);
            Edges.none(c, box, "dipped", 1, 1, 1, 63, 7);
            Edges.noneFar(c, box, 4, "dipped", 1, 1, 1, 0, 0);
            for (int many = 0; many <= 6; many++) {
                c.due(many + " of one CELL", box.dipped(1, 1, 1, 63 >> 6 - many, many), 1);
                c.due("one more than " + many, box.dipped(1, 1, 1, 63 >> 6 - many, (many + 1) % 7), 0);
            }
        });
        e.edge(21, "WAX on SIDES of the BOX", "sizes 1, 2 and 1000: both SIDES of an AXIS", c -> {
            CheeseCube box = new CheeseCube();
            for (int axis = 0; axis < 3; axis++) {
                int[] with = {10, 10, 10, 3 << 2 * axis, 1};
                with[axis] = 2;
                c.due("2: all have one", new Call("dipped", with).on(box), 200);
                with[axis] = 1;
                c.due("1: none has one", new Call("dipped", with).on(box), 0);
                with[4] = 2;
                c.due("1: all have two", new Call("dipped", with).on(box), 100);
                with[axis] = 1000;
                c.due("1000: none has two", new Call("dipped", with).on(box), 0);
                with[4] = 1;
                c.due("1000: the ends have one", new Call("dipped", with).on(box), 200);
                with[4] = 0;
                c.due("1000: the others", new Call("dipped", with).on(box), 99800);
            }
        });
        e.edge(21, "in a vast box, no HOLES", "a BOX with HOLES and a LAW", c -> {
            CheeseCube box = new CheeseCube();
            box.hole(0, 0, 0, 0, 6, 0);
            box.force(Tape.law(box, "takes"));
            c.due("corners", box.dipped(5, 5, 5, 63, 3), 8);
            c.due("edges", box.dipped(5, 5, 5, 63, 2), 36);
        });
    }

    private static void anew(Edges e) {
        e.edge(26, "ANEW. NONE.", "SIDES -1 and 64", c -> {
            CheeseCube box = new CheeseCube();
            Edges.none(c, box, "anew", -1);
            Edges.none(c, box, "anew", 64);
            Edges.noneFar(c, box, 0, "anew", 0);
        });
        e.edge(26, "on how many places, at most, a CELL can stand that shows no red outside", "all, none", c -> {
            c.due("no SIDE: all", BoxTest.box(6, 6, 6).anew(0), 216);
            c.due("the largest, all SIDES", BoxTest.box(6, 6, 6).anew(63), 216);
            c.due("one CELL, no SIDE", BoxTest.box(1, 1, 1).anew(0), 1);
            for (int side = 0; side < 6; side++) {
                c.due("one CELL, SIDE " + side, BoxTest.box(1, 1, 1).anew(1 << side), 0);
            }
        });
        e.edge(26, "(turned any way)", "eight corners turn their three red sides in, four of a plate can't", c -> {
            c.due("2 2 2", BoxTest.box(2, 2, 2).anew(63), 8);
            c.due("2 2 1", BoxTest.box(2, 2, 1).anew(63), 0);
            c.due("2 2 1, one SIDE", BoxTest.box(2, 2, 1).anew(16), 4);
            c.due("2 2 1, two SIDES that meet", BoxTest.box(2, 2, 1).anew(1 + 4), 4);
            c.due("2 2 1, two SIDES across", BoxTest.box(2, 2, 1).anew(16 + 32), 0);
            c.due("2 1 1, its ends", BoxTest.box(2, 1, 1).anew(1 + 2), 2);
            c.due("2 1 1, a long SIDE", BoxTest.box(2, 1, 1).anew(4), 2);
            c.due("2 1 1, two long SIDES", BoxTest.box(2, 1, 1).anew(4 + 16), 0);
        });
        e.edge(26, "the BOX dipped on SIDES", "all SIDES of all BOXES up to three, beside the model, asked of one object", c -> {
            CheeseCube box = new CheeseCube();
            Model model = new Model();
            for (int shape = 0; shape < 27; shape++) {
                int[] sizes = {1 + shape % 3, 1 + shape / 3 % 3, 1 + shape / 9};
                for (int axis = 0; axis < 3; axis++) {
                    box.terms(axis, sizes[axis]);
                    model.terms(axis, sizes[axis]);
                }
                for (int sides = 63; sides >= 0; sides--) {
                    c.due("anew(" + sides + ") of shape " + shape, box.anew(sides), model.anew(sides));
                }
            }
        });
        e.edge(26, "(whole, no HOLES)", "a BOX with HOLES and a LAW", c -> {
            CheeseCube box = BoxTest.box(2, 2, 2);
            box.hole(0, 0, 0, 0, 6, 0);
            box.force(Tape.law(box, "takes"));
            c.due("none is LEFT", box.left(0), 0);
            c.due("all places", box.anew(63), 8);
        });
    }
}
