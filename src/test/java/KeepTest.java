/** FEASTS, IMAGES, counts, status: promises 34 to 39. */
final class KeepTest {
    private KeepTest() {
    }

    static void promise34(Checks c) {
        CheeseCube box = new CheeseCube();
        c.due("none", box.feast(7, 0), 125);
        c.due("along x at y 1, z 4", box.feast(0, 1), 120);
        c.due("then along y at x 0, z 0", box.feast(0, 2), 115);
        c.due("on paper", box.left(0), 125);
        c.due("in another box at y 2, z 1", BoxTest.box(2, 3, 4).feast(0, 1), 22);
        Tape.law(box, "takes if z = 4");
        box.force(0);
        c.due("by the LAW they have gone before", box.feast(0, 1), 100);
        Tape.law(box, "takes if holes = 0 and z = 4; weighs 3");
        box.force(1);
        c.due("HOLES as told alone", box.feast(0, 2), 95);
        box.force(-1);
        box.hole(0, 1, 4, 0, 2, 0);
        c.due("a HOLE is there", box.feast(0, 1), 120);
        c.due("the greatest SEED", box.feast(1000000, 60) < 125 ? 1 : 0, 1);
        int[][] wrong = {{-1, 0}, {1000001, 0}, {0, -1}, {0, 61}};
        for (int[] a : wrong) {
            c.due("wrong", box.feast(a[0], a[1]), -1);
            c.due("status", box.status(), -1);
        }
    }

    static void promise35(Checks c) {
        CheeseCube box = new CheeseCube();
        c.due("ahead of any", box.drawn(0), -1);
        box.feast(0, 2);
        c.due("the first", box.drawn(0), 120);
        c.due("the second", box.drawn(1), 115);
        c.due("a third", box.drawn(2), -1);
        c.due("below", box.drawn(-1), -1);
        box.feast(0, 61);
        c.due("a REFUSED one is not kept", box.drawn(1), 115);
        box.hole(0, 1, 4, 0, 6, 0);
        box.image(0);
        c.due("as it was", box.drawn(0), 120);
        box.feast(0, 1);
        c.due("the latest", box.drawn(0), 120);
        c.due("it has one", box.drawn(1), -1);
        box.back(0);
        c.due("IMAGES do not keep it", box.drawn(1), -1);
        box.feast(5, 60);
        c.due("the last of sixty", box.drawn(59), box.feast(5, 60));
        c.due("behind it", box.drawn(60), -1);
        box.feast(5, 0);
        c.due("of none", box.drawn(0), -1);
    }

    /** A box of which each kind of thing is told; others() tells it in numbers. */
    private static CheeseCube full() {
        CheeseCube box = BoxTest.box(4, 3, 2);
        box.terms(3, 11);
        box.hole(0, 2, 1, 1, 2, 0);
        box.hole(2, 0, 0, 0, 1, 1);
        Tape.law(box, "takes if day = 12");
        Tape.law(box, "weighs day + 1");
        box.force(1);
        box.tally(0, 0, 0, 3);
        box.screw(0, 1, 1, 0, 3);
        box.screw(1, 1, 1, 1, 3);
        box.view(0, 0, 0, 1);
        box.view(1, 0, 0, 1);
        box.view(2, 0, 0, 1);
        box.told(0, 0, 1);
        box.told(1, 2, 1);
        return box;
    }

    private static void isFull(Checks c, CheeseCube box) {
        int[] due = {4, 3, 2, 2, 2, 1, 2};
        for (int what = 0; what < due.length; what++) {
            c.due("count(" + what + ")", box.count(what), due[what]);
        }
        c.due("the LAW in FORCE", box.count(13), 1);
        c.due("DAY", box.count(14), 11);
        c.due("a HOLE", 10 * box.of(0, 1) + box.of(1, 5), 22);
        c.due("LEFT", box.left(0), 24 - 3);
        c.due("weight", box.left(1), 12 * 21);
        c.due("the ROW is so", box.judge(), -1);
        c.due("SCREWS", box.meet(0), 1);
        c.due("VIEWS", 10 * box.views(0) + box.views(1), 11);
        c.due("COUNTS", box.fits(0), 4);
    }

    private static void spoil(CheeseCube box) {
        box.back(5);
        box.terms(0, 6);
        box.terms(1, 1);
        box.terms(2, 1);
        box.terms(3, 12);
        box.stop(0);
        Tape.law(box, "shuts");
        box.force(2);
        box.forget();
        box.unscrew();
        box.view(0, 0, 0, 0);
        box.told(0, 0, 0);
        box.told(1, 2, 6);
    }

    static void promise36(Checks c) {
        CheeseCube box = full();
        c.due("the first", box.image(0), 0);
        c.due("again", box.image(0), 0);
        c.due("the second", box.image(1), 0);
        c.due("k 2", box.image(2), -1);
        c.due("status", box.status(), -1);
        c.due("k -1", box.image(-1), -1);
        isFull(c, box);
        spoil(box);
        box.image(1);
        c.due("status", box.status(), 0);
        box.back(0);
        isFull(c, box);
        box.back(1);
        c.due("the other IMAGE", box.count(14), 12);
        c.due("its laws", box.count(4), 3);
    }

    static void promise37(Checks c) {
        CheeseCube box = full();
        c.due("not kept", box.back(0), -2);
        c.due("status", box.status(), -2);
        c.due("k 2", box.back(2), -1);
        c.due("k -1", box.back(-1), -1);
        box.image(0);
        c.due("the other was not kept", box.back(1), -2);
        for (int i = 0; i < 3; i++) {
            spoil(box);
            c.due("spoiled", box.count(0), 6);
            c.due("BACK", box.back(0), 0);
            isFull(c, box);
        }
        whatPromise37LeavesAlone(c, box);
        lawsOfPromise37(c);
    }

    /** The same number is another LAW in another IMAGE. */
    private static void lawsOfPromise37(Checks c) {
        CheeseCube box = new CheeseCube();
        box.image(0);
        Tape.law(box, "takes if x = 0");
        box.force(0);
        box.image(1);
        box.back(0);
        c.due("no LAW in FORCE", box.left(0), 125);
        c.due("the first again", Tape.law(box, "takes if x < 3"), 0);
        box.force(0);
        c.due("another LAW", box.left(0), 50);
        box.image(0);
        box.back(1);
        c.due("the LAW of the second IMAGE", box.left(0), 100);
        box.back(0);
        c.due("the LAW of the first IMAGE", box.left(0), 50);
    }

    private static void whatPromise37LeavesAlone(Checks c, CheeseCube box) {
        Tape.law(box, "takes 1");
        Tape.put(box, 9, 9, 9);
        box.row();
        box.feast(0, 3);
        int behind = box.drawn(2);
        box.feed(1, 2, 3, 4, 5);
        int refused = box.count(8);
        box.back(0);
        c.due("FAULT", box.fault(), 6);
        c.due("RIND", box.rinds(), 1);
        c.due("FEAST", box.drawn(2), behind);
        c.due("TAPE", box.count(7), 20);
        c.due("REFUSED", box.count(8), refused);
        c.due("status", box.status(), 0);
        box.stop(9);
        box.image(0);
        c.due("status of image", box.status(), 0);
        c.due("IMAGES keep no REFUSED", box.count(9), 2 + 1);
    }

    static void promise38(Checks c) {
        CheeseCube box = BoxTest.box(2, 3, 4);
        box.hole(0, 0, 0, 0, 1, 0);
        Tape.law(box, "takes");
        Tape.law(box, "takes");
        box.tally(0, 0, 0, 1);
        box.tally(0, 0, 0, 1);
        box.tally(0, 0, 0, 1);
        for (int i = 0; i < 4; i++) {
            box.screw(0, 0, 0, 0, 1);
        }
        box.feed(0, 0, 0, 0, 0);
        box.terms(3, 7);
        box.force(1);
        int[] due = {2, 3, 4, 1, 2, 3, 4, 20, 0, 0, 0, 0, 0, 1, 7};
        for (int what = 0; what < due.length; what++) {
            c.due("count(" + what + ")", box.count(what), due[what]);
        }
        c.due("count(15)", box.count(15), -1);
        c.due("count(-1)", box.count(-1), -1);
        box.terms(9, 9);
        box.stop(9);
        box.stop(9);
        for (int i = 0; i < 8; i++) {
            box.tally(0, 0, 0, 1);
        }
        Tape.law(box, "!");
        box.row();
        box.row();
        box.row();
        c.due("by -1", box.count(8), 1);
        c.due("by -2", box.count(9), 2);
        c.due("by -3", box.count(10), 0);
        c.due("by -5", box.count(11), 3);
        c.due("by -6", box.count(12), 4);
        box.slice(9, 9, 9);
        box.fewest(9, 9, 9);
        box.end(-1);
        c.due("NONE is not REFUSED", box.count(8), 1);
        c.due("status neither", box.status(), -6);
    }

    static void promise39(Checks c) {
        CheeseCube box = new CheeseCube();
        c.due("ahead of any", box.status(), 0);
        Call[] wrong = {new Call("hole", 3), new Call("stop", 0), new Call("terms", 0, 0), new Call("row"),
            new Call("law"), new Call("force", 0), new Call("tally", 3), new Call("view", 3), new Call("screw", 3),
            new Call("told", 3), new Call("feast", -1), new Call("image", 2), new Call("back", 2),
            new Call("back", 0)};
        int[] due = {-1, -2, -1, -6, -6, -2, -1, -1, -1, -1, -1, -1, -1, -2};
        for (int i = 0; i < wrong.length; i++) {
            box.terms(3, 0);
            c.due("none", box.status(), 0);
            c.due(wrong[i].toString(), wrong[i].on(box), due[i]);
            c.due("status behind " + wrong[i], box.status(), due[i]);
        }
        Call[] good = {new Call("hole", 0, 0, 0, 0, 1, 0), new Call("stop", 0), new Call("terms", 0, 5),
            new Call("force", -1), new Call("tally", 0, 0, 0, 0), new Call("view", 0, 0, 0, 0),
            new Call("screw", 0, 0, 0, 0, 1), new Call("told", 0, 0, 0), new Call("feast", 0, 0),
            new Call("image", 0), new Call("back", 0)};
        for (Call call : good) {
            box.stop(99);
            call.on(box);
            c.due("status behind " + call, box.status(), 0);
        }
        box.stop(99);
        Tape.law(box, "takes");
        c.due("status behind law", box.status(), 0);
        box.stop(99);
        Tape.put(box, 1);
        box.row();
        c.due("status behind row", box.status(), 0);
        box.stop(99);
        for (String other : new String[] {"of", "feed", "end", "rinds", "fault", "cell", "left", "slice", "vast",
            "forget", "judge", "wax", "dipped", "pieces", "fewest", "views", "anew", "wire", "unscrew", "meet",
            "fits", "ant", "drawn", "count", "status"}) {
            new Call(other).on(box);
            c.due("status behind " + other, box.status(), -2);
        }
    }
}
