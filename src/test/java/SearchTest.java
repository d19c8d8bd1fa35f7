/** FEWEST, VIEWS, WIRES, ANTS: promises 23 to 25, 27, 33. */
final class SearchTest {
    private SearchTest() {
    }

    private static void fewest(Checks c, CheeseCube box, int goal, int n, int... due) {
        for (int what = 0; what < 8; what++) {
            int want = what < due.length ? due[what] : -1;
            c.due("fewest(" + goal + ", " + n + ", " + what + ")", box.fewest(goal, n, what), want);
        }
    }

    static void promise23(Checks c) {
        CheeseCube box = BoxTest.box(2, 2, 2);
        fewest(c, box, 0, 1, 0, 1);
        fewest(c, box, 0, 0, -1, 0);
        fewest(c, box, 1, 0, 0, 1);
        fewest(c, box, 1, 1, 0, 1);
        fewest(c, box, 1, 2, 2, 6, 0, 0, 0, 0, 1, 1);
        fewest(c, box, 1, 3, -1, 0);
        fewest(c, box, 2, 8, 0, 1);
        fewest(c, box, 2, 7, -1, 0);
        fewest(c, box, 2, 6, 1, 12, 0, 0, 0);
        fewest(c, box, 2, 5, 2, 24, 0, 0, 0, 1, 0, 0);
        fewest(c, box, 2, 4, 2, 42, 0, 0, 0, 0, 0, 1);
        int[][] wrong = {{-1, 0, 0}, {3, 0, 0}, {0, -1, 0}, {0, 217, 0}, {0, 0, 8}, {0, 0, -1}};
        for (int[] a : wrong) {
            c.due("wrong", box.fewest(a[0], a[1], a[2]), -1);
        }
        c.due("the greatest n", box.fewest(0, 216, 0), 0);
        fewest(c, BoxTest.box(1, 1, 1), 0, 0, 1, 3, 0, 0, 0);
        fewest(c, BoxTest.box(1, 1, 2), 0, 0, 1, 1, 2, 0, 0);
        fewest(c, BoxTest.box(3, 2, 1), 0, 0, 2, 1, 0, 0, 0, 0, 1, 0);
        fewest(c, BoxTest.box(5, 5, 5), 0, 2, 1, 39, 0, 0, 2);
        promise23WithHolesAndLaws(c);
    }

    private static void promise23WithHolesAndLaws(Checks c) {
        CheeseCube box = BoxTest.box(3, 3, 3);
        box.hole(2, 1, 1, 0, 2, 0);
        fewest(c, box, 0, 1, 0, 1);
        fewest(c, box, 2, 24, 1, 1, 2, 1, 1);
        fewest(c, box, 2, 23, 1, 4, 0, 1, 0);
        c.due("on paper alone", box.left(0), 25);
        CheeseCube law = BoxTest.box(5, 1, 1);
        Tape.law(law, "takes if x = 1; takes if holes > 0");
        law.force(0);
        fewest(c, law, 1, 3, 1, 2, 1, 3, 0);
        fewest(c, law, 2, 4, 0, 1);
        CheeseCube one = BoxTest.box(6, 6, 6);
        Tape.law(one, "takes if not (x = 3 and y = 4 and z = 5)");
        one.force(0);
        fewest(c, one, 2, 0, 1, 3, 0, 4, 5);
    }

    static void promise24(Checks c) {
        CheeseCube box = BoxTest.box(1, 1, 1);
        c.due("beyond the box", box.view(2, 5, 5, 1), 0);
        c.due("it was dark", box.view(2, 5, 5, 1), 1);
        c.due("it was dark", box.view(2, 5, 5, 0), 1);
        c.due("it was light", box.view(2, 5, 5, 0), 0);
        c.due("u and v are not the same", box.view(2, 4, 5, 1) + box.view(2, 5, 4, 1), 0);
        c.due("nor are axes", box.view(0, 4, 5, 1) + box.view(1, 4, 5, 1), 0);
        int[][] wrong = {{-1, 0, 0, 0}, {3, 0, 0, 0}, {0, -1, 0, 0}, {0, 6, 0, 0}, {0, 0, -1, 0}, {0, 0, 6, 0},
            {0, 0, 0, -1}, {0, 0, 0, 2}};
        for (int[] a : wrong) {
            c.due("wrong", box.view(a[0], a[1], a[2], a[3]), -1);
            c.due("status", box.status(), -1);
        }
        c.due("light at first", box.view(0, 0, 0, 1), 0);
        c.due("status", box.status(), 0);
    }

    private static void views(Checks c, CheeseCube box, int... due) {
        for (int what = 0; what < 4; what++) {
            c.due("views(" + what + ")", box.views(what), due[what]);
        }
    }

    static void promise25(Checks c) {
        CheeseCube box = BoxTest.box(2, 2, 2);
        views(c, box, 0, 1, 0, 0);
        for (int axis = 0; axis < 3; axis++) {
            box.view(axis, 0, 0, 1);
            box.view(axis, 1, 1, 1);
        }
        views(c, box, 2, 1, 2, 2);
        box.view(0, 0, 1, 1);
        views(c, box, 2, 0, 2, -1);
        box.view(0, 0, 1, 0);
        box.view(0, 0, 2, 1);
        views(c, box, 2, 1, 2, 2);
        for (int i = 0; i < 12; i++) {
            box.view(i / 4, i / 2 % 2, i % 2, 1);
        }
        views(c, box, 8, 1, 1, 4);
        box.hole(0, 0, 0, 0, 6, 0);
        Tape.law(box, "takes");
        box.force(0);
        views(c, box, 8, 1, 1, 4);
        for (int i = 0; i < 108; i++) {
            box.view(i / 36, i / 6 % 6, i % 6, 1);
        }
        box.terms(0, 3);
        views(c, box, 12, 1, 1, 6);
        box.terms(1, 3);
        box.terms(2, 3);
        views(c, box, 27, 1, 1, 9);
        box.terms(1, 4);
        views(c, box, 36, 1, 1, -1);
        box.terms(2, 1);
        views(c, box, 12, 1, 1, -1);
        box.terms(1, 1);
        views(c, box, 3, 1, 1, 3);
        for (int axis = 0; axis < 3; axis++) {
            eachAlone(c, axis);
        }
        c.due("views(4)", box.views(4), -1);
        c.due("views(-1)", box.views(-1), -1);
    }

    /** A single dark place can't be; each question is asked first behind a change. */
    private static void eachAlone(Checks c, int axis) {
        CheeseCube box = BoxTest.box(6, 6, 6);
        int[] places = {0, 5, 30, 35, 14};
        for (int place : places) {
            box.view(axis, place / 6, place % 6, 1);
            c.due("a dark place alone", box.views(1), 0);
            box.view(axis, place / 6, place % 6, 0);
            c.due("light again", box.views(1), 1);
        }
        for (int i = 0; i < 3; i++) {
            box.view(i, 2, 2, 1);
        }
        c.due("a cell", box.views(2), 1);
        box.view(axis, 2, 2, 0);
        c.due("none", box.views(2), 0);
        c.due("none to be seen", box.views(0), 0);
    }

    private static void wire(Checks c, CheeseCube box, int... due) {
        for (int i = -2; i < due.length - 2; i++) {
            c.due("wire(" + i + ")", box.wire(i), due[i + 2]);
        }
    }

    static void promise27(Checks c) {
        wire(c, BoxTest.box(1, 1, 1), 0, 1, 0, -1);
        wire(c, BoxTest.box(2, 2, 2), 0, 1, 0, 1, 7, 6, 42, 36, 37, 43, -1);
        wire(c, BoxTest.box(3, 3, 1), 0, 1, 0, 1, 2, 8, 7, 6, 12, 13, 14, -1);
        wire(c, BoxTest.box(5, 3, 1), 0, -1, -1, -1);
        CheeseCube plus = BoxTest.box(3, 3, 1);
        plus.hole(2, 0, 0, 0, 1, 0);
        wire(c, plus, 0, 1, 1, 2, 8, 7, 6, 12, 13, 14, -1);
        plus.hole(2, 2, 0, 0, 1, 0);
        plus.hole(2, 0, 2, 0, 1, 0);
        plus.hole(2, 2, 2, 0, 1, 0);
        wire(c, plus, 1, 0, -1, -1);
        CheeseCube fork = BoxTest.box(3, 3, 1);
        for (int place : new int[] {1, 2, 7, 8}) {
            fork.hole(2, place / 3 == 0 ? 0 : 2, place % 3, 0, 1, 0);
        }
        c.due("five cells", fork.left(0), 5);
        wire(c, fork, 0, 0, -1, -1);
        CheeseCube two = BoxTest.box(3, 1, 1);
        two.hole(2, 1, 0, 0, 1, 0);
        wire(c, two, 1, 0, -1);
        CheeseCube none = BoxTest.box(1, 1, 1);
        none.hole(0, 0, 0, 0, 1, 0);
        c.due("no cell", none.left(0), 0);
        wire(c, none, 0, 1, -1, -1);
        c.due("no cell, i 13", none.wire(13), -1);
        c.due("no cell, i -3", none.wire(-3), -1);
        CheeseCube allTaken = new CheeseCube();
        allTaken.force(Tape.law(allTaken, "takes"));
        c.due("all taken", allTaken.left(0), 0);
        wire(c, allTaken, 0, 1, -1);
        allTaken.force(-1);
        wire(c, allTaken, 0, -1, -1);
        CheeseCube large = new CheeseCube();
        large.hole(0, 0, 0, 0, 1, 0);
        c.due("62 and 62", large.wire(-2), 0);
        c.due("too many to be found", large.wire(-1), -1);
        large.hole(0, 2, 0, 0, 1, 0);
        large.hole(1, 2, 0, 0, 1, 0);
        c.due("60 and 62", large.wire(-2), 1);
        c.due("barred is told of many, too", large.wire(-1), 0);
        c.due("i -3", large.wire(-3), -1);
        wire(c, BoxTest.box(2, 1, 1), 0, 1, 0, 1, -1);
        wire(c, BoxTest.box(1, 2, 6), 0, 1, 0, 6, 42, 36, 72, 78, 114, 108, 144, 150, 186, 180, -1);
        CheeseCube fourteen = BoxTest.box(3, 5, 1);
        fourteen.hole(2, 0, 0, 0, 1, 0);
        c.due("seven and seven", fourteen.wire(-2), 0);
        c.due("fourteen cells", fourteen.left(0), 14);
        c.due("are looked through", fourteen.wire(-1), 1);
    }

    private static void ant(Checks c, CheeseCube box, int from, int to, int... way) {
        c.due("ant(" + from + ", " + to + ", -1)", box.ant(from, to, -1), way.length - 1);
        for (int i = 0; i < way.length; i++) {
            c.due("ant(" + from + ", " + to + ", " + i + ")", box.ant(from, to, i), way[i]);
        }
        c.due("behind the end", box.ant(from, to, Math.max(way.length, 1)), -1);
    }

    static void promise33(Checks c) {
        CheeseCube box = BoxTest.box(3, 3, 2);
        ant(c, box, 0, 0, 0);
        ant(c, box, 0, 50, 0, 1, 2, 8, 14, 50);
        ant(c, box, 50, 0, 50, 14, 8, 2, 1, 0);
        ant(c, box, 36, 14, 36, 0, 1, 2, 8, 14);
        box.hole(2, 1, 0, 0, 1, 0);
        ant(c, box, 0, 2, 0, 6, 7, 8, 2);
        Tape.law(box, "shuts if x = 1 and z = 0; takes if x = 1 and y = 2 and z = 1");
        box.force(0);
        ant(c, box, 0, 2, 0, 36, 37, 38, 2);
        ant(c, box, 7, 2);
        ant(c, box, 2, 7);
        ant(c, box, 1, 2);
        ant(c, box, 49, 2);
        c.due("to itself, SHUT", box.ant(7, 7, -1), -1);
        box.force(-1);
        box.hole(0, 0, 1, 0, 6, 0);
        box.hole(0, 1, 1, 0, 6, 0);
        box.hole(0, 2, 1, 0, 6, 0);
        box.hole(2, 1, 1, 0, 1, 0);
        box.hole(2, 1, 2, 0, 1, 0);
        ant(c, box, 0, 2);
        c.due("no CELL", box.ant(0, 3, -1), -1);
        c.due("no CELL", box.ant(-1, 0, -1), -1);
        c.due("no CELL", box.ant(216, 0, -1), -1);
        c.due("what -2", box.ant(0, 0, -2), -1);
    }
}
