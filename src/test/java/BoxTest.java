/** HOLES, TERMS and what is LEFT: promises 1 to 5, 13 to 15, 20, 22. */
final class BoxTest {
    private BoxTest() {
    }

    static CheeseCube box(int x, int y, int z) {
        CheeseCube box = new CheeseCube();
        box.terms(0, x);
        box.terms(1, y);
        box.terms(2, z);
        return box;
    }

    static void promise1(Checks c) {
        CheeseCube box = new CheeseCube();
        int[] due = {5, 5, 5, 0, 0, 0, 0, 0, 0, 0, 0, 0, 0, -1, 0};
        for (int what = 0; what < due.length; what++) {
            c.due("count(" + what + ")", box.count(what), due[what]);
        }
        c.due("left", box.left(0), 125);
        c.due("weight", box.left(1), 125);
        c.due("status", box.status(), 0);
        c.due("rinds", box.rinds(), 0);
        c.due("fault", box.fault(), -1);
        c.due("drawn", box.drawn(0), -1);
        c.due("judge", box.judge(), -1);
        c.due("light", box.view(0, 0, 0, 0), 0);
        c.due("no image", box.back(0), -2);
        c.due("NONE", CheeseCube.NONE, -1);
    }

    static void promise2(Checks c) {
        CheeseCube box = box(2, 3, 4);
        c.due("along x, u is y", box.hole(0, 2, 3, 0, 1, 0), 0);
        c.due("y 3", box.hole(0, 3, 3, 0, 1, 0), -1);
        c.due("z 4", box.hole(0, 2, 4, 0, 1, 0), -1);
        c.due("along y, u is x", box.hole(1, 1, 3, 1, 6, 1), 1);
        c.due("x 2", box.hole(1, 2, 3, 1, 6, 1), -1);
        c.due("along z, v is y", box.hole(2, 1, 2, 1, 6, -1), 2);
        c.due("y 3 as v", box.hole(2, 1, 3, 1, 6, -1), -1);
        int[][] wrong = {{-1, 0, 0, 0, 1, 0}, {3, 0, 0, 0, 1, 0}, {0, -1, 0, 0, 1, 0}, {0, 0, -1, 0, 1, 0},
            {0, 0, 0, -1, 1, 0}, {0, 0, 0, 2, 1, 0}, {0, 0, 0, 0, 0, 0}, {0, 0, 0, 0, 7, 0},
            {0, 0, 0, 0, 1, -2}, {0, 0, 0, 0, 1, 2}};
        for (int[] a : wrong) {
            c.due("wrong", box.hole(a[0], a[1], a[2], a[3], a[4], a[5]), -1);
            c.due("status", box.status(), -1);
        }
        for (int i = 3; i < 16; i++) {
            c.due("more", box.hole(0, 0, 0, 0, 1, 0), i);
        }
        c.due("no room", box.hole(0, 0, 0, 0, 1, 0), -5);
        c.due("wrong goes ahead of no room", box.hole(0, 0, 0, 0, 7, 0), -1);
        c.due("holes", box.count(3), 16);
        wherePromise2Goes(c);
    }

    private static void wherePromise2Goes(Checks c) {
        CheeseCube box = new CheeseCube();
        box.hole(2, 0, 1, 0, 3, 1);
        c.due("starts at z 0", box.cell(6, 0), 0);
        c.due("then u is one more", box.cell(36 + 6 + 1, 0), 0);
        c.due("and more", box.cell(72 + 6 + 2, 0), 0);
        c.due("three deep", box.cell(108 + 6 + 3, 0), 1);
        box = new CheeseCube();
        box.hole(0, 1, 2, 1, 6, -1);
        c.due("from the greatest x", box.cell(72 + 6 + 4, 0), 0);
        c.due("y falls as it goes", box.cell(72 + 3, 0), 0);
        c.due("out of the box then", box.left(0), 123);
        box = new CheeseCube();
        box.hole(1, 2, 2, 1, 2, 0);
        c.due("y 4", box.cell(72 + 24 + 2, 0), 0);
        c.due("y 3", box.cell(72 + 18 + 2, 0), 0);
        c.due("y 2", box.cell(72 + 12 + 2, 0), 1);
    }

    static void promise3(Checks c) {
        CheeseCube box = new CheeseCube();
        c.due("none", box.stop(0), -2);
        box.hole(0, 0, 0, 0, 1, 0);
        box.hole(1, 1, 1, 0, 2, 0);
        box.hole(2, 2, 2, 0, 3, 0);
        c.due("below", box.stop(-1), -2);
        c.due("behind", box.stop(3), -2);
        c.due("status", box.status(), -2);
        c.due("the second", box.stop(1), 2);
        c.due("status", box.status(), 0);
        c.due("the third is the second", box.of(1, 0), 2);
        c.due("its DEEP", box.of(1, 4), 3);
        c.due("the first stays", box.of(0, 0), 0);
        c.due("left again", box.left(0), 125 - 4);
        c.due("the last", box.stop(1), 1);
        c.due("the first", box.stop(0), 0);
        c.due("all", box.left(0), 125);
    }

    static void promise4(Checks c) {
        CheeseCube box = new CheeseCube();
        box.hole(1, 3, 2, 1, 4, -1);
        box.hole(2, 1, 0, 0, 6, 0);
        int[] due = {1, 3, 2, 1, 4, 0, 4};
        int[] second = {2, 1, 0, 0, 6, 1, 5};
        for (int what = 0; what < 7; what++) {
            c.due("of " + what, box.of(0, what), due[what]);
            c.due("of the second " + what, box.of(1, what), second[what]);
        }
        c.due("LEANING 1", box.hole(0, 4, 0, 0, 6, 1), 2);
        c.due("is told as 2", box.of(2, 5), 2);
        c.due("it goes one cell", box.of(2, 6), 1);
        c.due("what 7", box.of(0, 7), -1);
        c.due("what -1", box.of(0, -1), -1);
        c.due("hole 3", box.of(3, 0), -1);
        c.due("hole -1", box.of(-1, 0), -1);
        box.terms(2, 6);
        c.due("the box grew", box.of(1, 6), 6);
        box.terms(1, 2);
        c.due("the box is low", box.of(0, 6), 2);
        c.due("DEEP as it was", box.of(0, 4), 4);
    }

    static void promise5(Checks c) {
        CheeseCube box = new CheeseCube();
        c.due("x", box.terms(0, 1), 5);
        c.due("x again", box.terms(0, 6), 1);
        c.due("y", box.terms(1, 2), 5);
        c.due("z", box.terms(2, 3), 5);
        c.due("day", box.terms(3, 99), 0);
        c.due("day again", box.terms(3, 0), 99);
        c.due("cells", box.left(0), 36);
        int[][] wrong = {{0, 0}, {0, 7}, {1, 0}, {1, 7}, {2, 0}, {2, 7}, {3, -1}, {3, 100}, {4, 1}, {-1, 1}};
        for (int[] a : wrong) {
            c.due("wrong", box.terms(a[0], a[1]), -1);
        }
        c.due("nothing changed", 100 * box.count(0) + 10 * box.count(1) + box.count(2), 623);
        whatPromise5Takes(c);
    }

    private static void whatPromise5Takes(Checks c) {
        CheeseCube box = new CheeseCube();
        box.hole(0, 4, 0, 0, 1, 0);
        box.hole(1, 4, 0, 0, 1, 0);
        box.hole(2, 0, 4, 0, 1, 0);
        box.hole(2, 0, 3, 1, 1, 0);
        box.tally(0, 4, 0, 0);
        box.tally(1, 4, 0, 0);
        box.screw(2, 0, 4, 0, 1);
        box.screw(0, 3, 4, 0, 1);
        box.terms(1, 4);
        c.due("two holes begin beyond", box.count(3), 2);
        c.due("the second is the first", box.of(0, 0), 1);
        c.due("the fourth is the second", box.of(1, 2), 3);
        c.due("rows", box.count(5), 1);
        c.due("the row along y is so not", box.judge(), 0);
        c.due("screws", box.count(6), 1);
        box.terms(1, 6);
        c.due("they do not come again", box.count(3), 2);
        box.terms(2, 3);
        c.due("the hole from above is at the greatest z", box.cell(72 + 18, 0), 0);
        c.due("the screw at z 4 goes", box.count(6), 0);
    }

    static void promise13(Checks c) {
        CheeseCube box = box(2, 3, 4);
        Tape.law(box, "weighs 5 + x; takes if z = 3; shuts if y = 2; weighs 7 if holes > 1");
        box.force(0);
        box.hole(2, 0, 0, 0, 2, 0);
        box.hole(0, 0, 0, 0, 6, 0);
        c.due("not LEFT", box.cell(0, 0), 0);
        c.due("LEFT", box.cell(6, 0), 1);
        c.due("taken", box.cell(108, 0), 0);
        c.due("weighs by holes", box.cell(0, 1), 7);
        c.due("weighs", box.cell(1, 1), 6);
        c.due("SHUT", box.cell(12, 2), 1);
        c.due("not SHUT", box.cell(6, 2), 0);
        c.due("holes", box.cell(0, 3), 2);
        c.due("one hole", box.cell(36, 3), 1);
        c.due("no hole", box.cell(72, 3), 0);
        int[][] wrong = {{0, 4}, {0, -1}, {-1, 0}, {2, 0}, {18, 0}, {144, 0}, {216, 0}};
        for (int[] a : wrong) {
            c.due("wrong " + a[0] + " " + a[1], box.cell(a[0], a[1]), -1);
        }
        c.due("the last cell", box.cell(108 + 12 + 1, 2), 1);
        box.force(-1);
        c.due("no LAW: weighs 1", box.cell(0, 1), 1);
        c.due("no LAW: not SHUT", box.cell(12, 2), 0);
    }

    static void promise14(Checks c) {
        CheeseCube box = box(3, 3, 3);
        c.due("LEFT", box.left(0), 27);
        c.due("weight", box.left(1), 27);
        c.due("BARE", box.left(2), 0);
        c.due("INSIDE", box.left(3), 1);
        c.due("what 4", box.left(4), -1);
        c.due("what -1", box.left(-1), -1);
        box.hole(2, 1, 1, 0, 2, 0);
        c.due("LEFT, a hole two deep", box.left(0), 25);
        c.due("four sides twice, and its ground", box.left(2), 9);
        c.due("none INSIDE", box.left(3), 0);
        Tape.law(box, "weighs 10 + z");
        box.force(0);
        c.due("weight by the LAW", box.left(1), 10 * 25 + 9 * 2 + 8);
        box.terms(0, 1);
        c.due("the hole has gone", box.left(0), 9);
        c.due("none INSIDE a flat box", box.left(3), 0);
        CheeseCube large = box(6, 6, 6);
        c.due("LEFT of the largest", large.left(0), 216);
        c.due("INSIDE of the largest", large.left(3), 64);
    }

    static void promise15(Checks c) {
        CheeseCube box = box(2, 3, 4);
        box.hole(2, 1, 2, 0, 3, 0);
        c.due("along it", box.slice(2, 1, 2), 1);
        c.due("across, x", box.slice(0, 2, 0), 1);
        c.due("across, y", box.slice(1, 1, 2), 2);
        c.due("beside", box.slice(1, 0, 2), 3);
        c.due("a whole row", box.slice(2, 0, 2), 4);
        int[][] wrong = {{3, 0, 0}, {-1, 0, 0}, {0, 3, 0}, {0, 0, 4}, {1, 2, 0}, {2, 0, 3}, {0, -1, 0}, {0, 0, -1}};
        for (int[] a : wrong) {
            c.due("wrong", box.slice(a[0], a[1], a[2]), -1);
        }
        c.due("not told by status", box.status(), 0);
    }

    static void promise20(Checks c) {
        CheeseCube box = new CheeseCube();
        int[] all = {27, 54, 36, 8, 0, 0, 0};
        for (int many = 0; many <= 6; many++) {
            c.due("all SIDES, " + many, box.wax(63, many), all[many]);
        }
        c.due("x 0", box.wax(1, 1), 25);
        c.due("x both ends", box.wax(3, 1), 50);
        c.due("x 0 and z greatest", box.wax(1 + 32, 2), 5);
        c.due("no SIDE", box.wax(0, 0), 125);
        box.hole(2, 0, 0, 0, 1, 0);
        c.due("a corner has gone", box.wax(63, 3), 7);
        c.due("SIDES 64", box.wax(64, 0), -1);
        c.due("SIDES -1", box.wax(-1, 0), -1);
        c.due("7 red", box.wax(63, 7), -1);
        c.due("-1 red", box.wax(63, -1), -1);
        c.due("a single cell", box(1, 1, 1).wax(63, 6), 1);
        c.due("a bar's end", box(1, 1, 4).wax(63, 5), 2);
        c.due("a bar's middle", box(1, 1, 4).wax(63, 4), 2);
        c.due("y 0 of a flat one", box(5, 1, 5).wax(4, 1), 25);
    }

    static void promise22(Checks c) {
        CheeseCube box = box(5, 1, 1);
        c.due("one", box.pieces(-1, 0), 1);
        box.hole(2, 1, 0, 0, 1, 0);
        c.due("two", box.pieces(-1, 99), 2);
        c.due("cells of the first", box.pieces(0, 0), 1);
        c.due("cells of the second", box.pieces(1, 0), 3);
        c.due("lowest of the first", box.pieces(0, 1), 0);
        c.due("lowest of the second", box.pieces(1, 1), 2);
        c.due("a third", box.pieces(2, 0), -1);
        c.due("i -2", box.pieces(-2, 0), -1);
        c.due("what 2", box.pieces(0, 2), -1);
        c.due("what -1", box.pieces(0, -1), -1);
        CheeseCube corners = box(2, 2, 2);
        Tape.law(corners, "takes if x + y + z = 1 or x + y + z = 3");
        corners.force(0);
        c.due("edges are no sides", corners.pieces(-1, 0), 4);
        c.due("the second", corners.pieces(1, 1), 7);
        c.due("the fourth", corners.pieces(3, 1), 42);
        CheeseCube gone = box(1, 1, 1);
        gone.hole(0, 0, 0, 0, 1, 0);
        c.due("none", gone.pieces(-1, 0), 0);
        c.due("no first", gone.pieces(0, 1), -1);
    }
}
