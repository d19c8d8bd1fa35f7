/** VAST boxes, counted ROWS, WAX, ANEW, COUNTS, SCREWS: promises 16 to 19, 21, 26, 28 to 32. */
final class CountTest {
    private CountTest() {
    }

    static void promise16(Checks c) {
        CheeseCube box = new CheeseCube();
        c.due("whole", box.vast(1000, 1000, 1000), 1000000000L);
        box.hole(0, 2, 3, 0, 1, 0);
        c.due("right through", box.vast(1000, 1000, 1000), 999999000L);
        box.hole(0, 2, 3, 1, 4, 1);
        c.due("the same line again", box.vast(1000, 1000, 1000), 999999000L);
        box.hole(1, 4, 3, 0, 6, -1);
        c.due("meets the first: z 3", box.vast(1000, 1000, 1000), 999998001L);
        box.hole(2, 4, 2, 0, 6, 0);
        c.due("meets both in one place", box.vast(1000, 1000, 1000), 999997002L);
        box.hole(2, 4, 3, 0, 6, 0);
        c.due("meets the second alone", box.vast(1000, 1000, 1000), 999996003L);
        c.due("like the box", box.vast(5, 5, 5), 125 - 5 - 4 - 4 - 4);
        c.due("z 3 is not there", box.vast(5, 5, 3), 75 - 3 - 3);
        c.due("nor x 4, y 2", box.vast(4, 2, 5), 40);
        c.due("all of it", box.vast(1, 1, 1), 1);
        c.due("unlike sizes", box.vast(10, 20, 30), 6000 - 10 - 19 - 29 - 29);
        Tape.law(box, "takes");
        box.force(0);
        c.due("no LAW", box.vast(5, 5, 5), 108);
        int[][] wrong = {{0, 1, 1}, {1, 0, 1}, {1, 1, 0}, {1001, 1, 1}, {1, 1001, 1}, {1, 1, 1001}, {-1, -1, -1}};
        for (int[] a : wrong) {
            c.due("wrong", box.vast(a[0], a[1], a[2]), -1);
        }
    }

    static void promise17(Checks c) {
        CheeseCube box = BoxTest.box(2, 3, 4);
        c.due("one", box.tally(0, 2, 3, 0), 1);
        c.due("two", box.tally(1, 1, 3, 6), 2);
        int[][] wrong = {{3, 0, 0, 0}, {-1, 0, 0, 0}, {0, 3, 0, 0}, {0, 0, 4, 0}, {1, 2, 0, 0}, {2, 0, 3, 0},
            {0, -1, 0, 0}, {0, 0, -1, 0}, {0, 0, 0, -1}, {0, 0, 0, 7}};
        for (int[] a : wrong) {
            c.due("wrong", box.tally(a[0], a[1], a[2], a[3]), -1);
            c.due("status", box.status(), -1);
        }
        for (int i = 3; i <= 8; i++) {
            c.due("more", box.tally(2, 1, 2, 4), i);
        }
        c.due("no room", box.tally(2, 1, 2, 4), -5);
        c.due("wrong goes ahead", box.tally(2, 1, 2, 7), -1);
        c.due("count(5)", box.count(5), 8);
    }

    static void promise18(Checks c) {
        CheeseCube box = new CheeseCube();
        c.due("none", box.forget(), 0);
        box.tally(0, 0, 0, 4);
        box.tally(0, 0, 1, 4);
        box.hole(7, 0, 0, 0, 0, 0);
        c.due("two", box.forget(), 2);
        c.due("status is not its", box.status(), -1);
        c.due("none then", box.count(5), 0);
        c.due("judge", box.judge(), -1);
        c.due("the first again", box.tally(0, 0, 0, 5), 1);
    }

    static void promise19(Checks c) {
        CheeseCube box = new CheeseCube();
        c.due("none", box.judge(), -1);
        box.tally(2, 1, 1, 5);
        box.tally(0, 1, 1, 5);
        box.tally(1, 1, 1, 4);
        c.due("the third", box.judge(), 2);
        box.hole(1, 1, 1, 0, 1, 0);
        c.due("it is so now", box.judge(), -1);
        box.hole(0, 1, 1, 0, 1, 0);
        c.due("the second", box.judge(), 1);
        box.hole(2, 1, 1, 0, 2, 0);
        c.due("the first", box.judge(), 0);
        CheeseCube law = new CheeseCube();
        law.tally(0, 0, 0, 3);
        Tape.law(law, "takes if x > 2");
        law.force(0);
        c.due("LEFT by the LAW", law.judge(), -1);
        law.terms(0, 2);
        c.due("a shorter row", law.judge(), 0);
    }

    static void promise21(Checks c) {
        CheeseCube box = new CheeseCube();
        long[] all = {994011992L, 5976024L, 11976L, 8, 0, 0, 0};
        for (int many = 0; many <= 6; many++) {
            c.due("all SIDES, " + many, box.dipped(1000, 1000, 1000, 63, many), all[many]);
        }
        c.due("a bar's ends", box.dipped(1, 1, 1000, 63, 5), 2);
        c.due("a bar's others", box.dipped(1, 1, 1000, 63, 4), 998);
        c.due("one cell", box.dipped(1, 1, 1, 63, 6), 1);
        c.due("one cell, x low alone", box.dipped(1, 1, 1, 1, 1), 1);
        c.due("unlike sizes, x 0", box.dipped(7, 8, 9, 1, 1), 72);
        c.due("y 0", box.dipped(7, 8, 9, 4, 1), 63);
        c.due("y greatest", box.dipped(7, 8, 9, 8, 1), 63);
        c.due("z both ends", box.dipped(7, 8, 9, 48, 1), 112);
        c.due("two that meet", box.dipped(7, 8, 9, 1 + 32, 2), 8);
        box.hole(0, 0, 0, 0, 6, 0);
        c.due("no HOLES", box.dipped(5, 5, 5, 63, 3), 8);
        int[][] wrong = {{0, 1, 1, 0, 0}, {1, 0, 1, 0, 0}, {1, 1, 0, 0, 0}, {1001, 1, 1, 0, 0}, {1, 1001, 1, 0, 0},
            {1, 1, 1001, 0, 0}, {1, 1, 1, 64, 0}, {1, 1, 1, -1, 0}, {1, 1, 1, 0, 7}, {1, 1, 1, 0, -1}};
        for (int[] a : wrong) {
            c.due("wrong", box.dipped(a[0], a[1], a[2], a[3], a[4]), -1);
        }
    }

    static void promise26(Checks c) {
        c.due("turns of a cube", Turns.many(), 24);
        c.due("inner sides have room for all", new CheeseCube().anew(63), 125);
        c.due("a single cell", BoxTest.box(1, 1, 1).anew(63), 0);
        c.due("a single cell, red below", BoxTest.box(1, 1, 1).anew(16), 0);
        c.due("a single cell, not red", BoxTest.box(1, 1, 1).anew(0), 1);
        c.due("two, red at one end", BoxTest.box(1, 1, 2).anew(16), 2);
        c.due("two, both ends", BoxTest.box(1, 1, 2).anew(48), 2);
        c.due("two, along both", BoxTest.box(1, 1, 2).anew(3), 0);
        c.due("two, one of them at two sides", BoxTest.box(2, 1, 1).anew(1 + 16), 1);
        c.due("three, red along", BoxTest.box(1, 1, 3).anew(1), 3);
        c.due("three, at sides face to face: the middle", BoxTest.box(1, 1, 3).anew(3), 1);
        c.due("three, at sides that meet: none", BoxTest.box(1, 1, 3).anew(1 + 4), 0);
        c.due("a plate", BoxTest.box(1, 3, 3).anew(4 + 16), 9);
        c.due("a plate red all over: all but the corners", BoxTest.box(3, 3, 1).anew(63), 5);
        c.due("a plate of four, above and below", BoxTest.box(2, 2, 1).anew(48), 0);
        CheeseCube box = BoxTest.box(1, 1, 2);
        box.hole(2, 0, 0, 0, 6, 0);
        c.due("no HOLES", box.anew(16), 2);
        c.due("SIDES 64", box.anew(64), -1);
        c.due("SIDES -1", box.anew(-1), -1);
    }

    static void promise28(Checks c) {
        CheeseCube box = BoxTest.box(2, 3, 4);
        c.due("one", box.screw(0, 2, 3, 0, 6), 1);
        int[][] wrong = {{3, 0, 0, 0, 1}, {-1, 0, 0, 0, 1}, {0, 3, 0, 0, 1}, {0, 0, 4, 0, 1}, {1, 2, 0, 0, 1},
            {2, 0, 3, 0, 1}, {0, -1, 0, 0, 1}, {0, 0, -1, 0, 1}, {0, 0, 0, -1, 1}, {0, 0, 0, 2, 1},
            {0, 0, 0, 0, 0}, {0, 0, 0, 0, 7}};
        for (int[] a : wrong) {
            c.due("wrong", box.screw(a[0], a[1], a[2], a[3], a[4]), -1);
            c.due("status", box.status(), -1);
        }
        for (int i = 2; i <= 8; i++) {
            c.due("more", box.screw(2, 1, 2, 1, 1), i);
        }
        c.due("no room", box.screw(2, 1, 2, 1, 1), -5);
        c.due("wrong goes ahead", box.screw(2, 1, 3, 1, 1), -1);
        c.due("count(6)", box.count(6), 8);
        c.due("they take nothing", box.left(0), 24);
    }

    static void promise29(Checks c) {
        CheeseCube box = new CheeseCube();
        c.due("none", box.unscrew(), 0);
        box.screw(0, 0, 0, 0, 1);
        box.screw(0, 0, 0, 0, 1);
        box.stop(0);
        c.due("two", box.unscrew(), 2);
        c.due("status is not its", box.status(), -2);
        c.due("none then", box.count(6), 0);
        c.due("no pairs", box.meet(0), 0);
        c.due("the first again", box.screw(0, 0, 0, 0, 1), 1);
    }

    static void promise30(Checks c) {
        CheeseCube box = new CheeseCube();
        c.due("none", box.meet(0), 0);
        c.due("none of none", box.meet(1), 0);
        c.due("no bits", box.meet(2), 0);
        box.screw(0, 2, 2, 0, 3);
        box.screw(0, 2, 2, 1, 3);
        box.screw(1, 2, 2, 0, 6);
        box.screw(2, 4, 4, 0, 6);
        box.screw(1, 4, 0, 1, 1);
        c.due("by the same line, across, at an end", box.meet(0), 4);
        c.due("the most", box.meet(1), 2);
        c.due("the lowest of them: the first and the fourth", box.meet(2), 1 + 8);
        box.unscrew();
        box.screw(0, 2, 2, 0, 2);
        box.screw(0, 2, 2, 1, 3);
        c.due("end to end", box.meet(0), 0);
        c.due("both", box.meet(2), 3);
        box.terms(0, 4);
        c.due("in a shorter box", box.meet(0), 1);
        c.due("what 3", box.meet(3), -1);
        c.due("what -1", box.meet(-1), -1);
    }

    static void promise31(Checks c) {
        CheeseCube box = BoxTest.box(2, 2, 2);
        c.due("by x, beyond the box", box.told(0, 5, 6), 0);
        c.due("what it was", box.told(0, 5, 1), 6);
        c.due("by y is another", box.told(1, 5, 2), 0);
        c.due("another place", box.told(1, 4, 3), 0);
        c.due("what it was", box.told(1, 5, 0), 2);
        int[][] wrong = {{-1, 0, 0}, {2, 0, 0}, {0, -1, 0}, {0, 6, 0}, {0, 0, -1}, {0, 0, 7}};
        for (int[] a : wrong) {
            c.due("wrong", box.told(a[0], a[1], a[2]), -1);
            c.due("status", box.status(), -1);
        }
        c.due("0 at first", box.told(0, 0, 0), 0);
        c.due("status", box.status(), 0);
    }

    static void promise32(Checks c) {
        CheeseCube box = BoxTest.box(3, 2, 1);
        c.due("none told: one way", box.fits(-1), 1);
        c.due("the empty set", box.fits(2), 0);
        box.told(0, 0, 1);
        c.due("x without y", box.fits(-1), 0);
        c.due("no first", box.fits(0), -1);
        box.told(0, 2, 1);
        box.told(1, 0, 1);
        box.told(1, 1, 1);
        c.due("two ways", box.fits(-1), 2);
        c.due("y 0 with x 0", box.fits(0), 1);
        c.due("none with x 1", box.fits(1), 0);
        c.due("y 1 with x 2", box.fits(2), 2);
        c.due("x 3 is beyond the box", box.fits(3), -1);
        c.due("x -2", box.fits(-2), -1);
        box.told(0, 4, 5);
        box.told(1, 4, 5);
        box.told(0, 3, 1);
        box.told(1, 2, 1);
        c.due("told beyond the box: nothing", box.fits(-1), 2);
        box.hole(2, 0, 0, 0, 1, 0);
        c.due("HOLES aside", box.fits(-1), 2);
        CheeseCube large = BoxTest.box(6, 6, 6);
        for (int i = 0; i < 6; i++) {
            large.told(0, i, 3);
            large.told(1, i, 3);
        }
        c.due("known of six by six with three each", large.fits(-1), 297200);
        int[] first = {7, 7, 7, 56, 56, 56};
        for (int x = 0; x < 6; x++) {
            c.due("first " + x, large.fits(x), first[x]);
        }
        large.told(0, 5, 4);
        c.due("one too many", large.fits(-1), 0);
        for (int i = 0; i < 6; i++) {
            large.told(0, i, 1);
            large.told(1, i, 1);
        }
        c.due("orders of six", large.fits(-1), 720);
        CheeseCube low = BoxTest.box(4, 4, 4);
        low.told(0, 0, 2);
        low.told(0, 1, 2);
        low.told(1, 0, 1);
        low.told(1, 1, 1);
        low.told(1, 2, 1);
        low.told(1, 3, 1);
        c.due("two by two", low.fits(-1), 6);
        c.due("the lowest as bits", low.fits(0), 3);
        c.due("the others", low.fits(1), 12);
    }
}
