/** The TAPE, ROWS of HOLES and LAWS: promises 6 to 12. */
final class TapeTest {
    private static final String TEST = "takes if ";

    private TapeTest() {
    }

    static void promise6(Checks c) {
        CheeseCube box = new CheeseCube();
        c.due("twenty", box.feed(0x00010203, 0, 0x02000000, 0, 0), 20);
        c.due("forty", box.feed(0, 0, 0, 0, 0), 40);
        c.due("count(7)", box.count(7), 40);
        c.due("the highest byte first: 0 1 2 3 is no hole's end", box.end(6), 6);
        box.row();
        c.due("END 3 can't be", box.rinds(), 1);
        for (int many = 20; many <= 400; many += 20) {
            c.due("more", box.feed(-1, -1, -1, -1, -1), many);
        }
        c.due("full", box.feed(0, 0, 0, 0, 0), -1);
        c.due("it stays", box.count(7), 400);
        box.end(381);
        c.due("19 are too few", box.feed(0, 0, 0, 0, 0), -1);
        box.end(380);
        c.due("20 will do", box.feed(0, 0, 0, 0, 0), 400);
        c.due("no REFUSED", box.status(), 0);
        CheeseCube other = new CheeseCube();
        other.feed(0x02010200, 0x05020000, 0, 0, 0);
        other.end(6);
        c.due("a hole from bytes", other.row(), 1);
        int[] due = {2, 1, 2, 0, 5, 2};
        for (int what = 0; what < 6; what++) {
            c.due("byte " + what, other.of(0, what), due[what]);
        }
        other.feed(0, 0, 0, 0, 0x00000001);
        other.feed(0x00000601, 0, 0, 0, 0);
        c.due("bytes go on behind those there", other.end(24), 24);
        c.due("the fourth is a hole", other.row(), 1);
        c.due("u from the last byte of a call", other.of(1, 1), 1);
        c.due("DEEP from the next call", other.of(1, 4), 6);
    }

    static void promise7(Checks c) {
        CheeseCube box = new CheeseCube();
        c.due("none of none", box.end(0), 0);
        c.due("one of none", box.end(1), -1);
        box.feed(0, 0, 0, 0, 0);
        c.due("too many", box.end(21), -1);
        c.due("below 0", box.end(-1), -1);
        c.due("it stays", box.count(7), 20);
        c.due("all", box.end(20), 20);
        c.due("some", box.end(7), 7);
        c.due("not as many again", box.end(8), -1);
        c.due("none", box.end(0), 0);
        c.due("count(7)", box.count(7), 0);
        c.due("no REFUSED", box.count(8), 0);
    }

    static void promise8(Checks c) {
        CheeseCube box = new CheeseCube();
        c.due("empty", box.row(), -6);
        c.due("status", box.status(), -6);
        Tape.put(box, 0, 4, 4, 1, 6, 0, 1, 0, 0, 0, 1, 1);
        c.due("two", box.row(), 2);
        c.due("the tape is empty", box.count(7), 0);
        c.due("status", box.status(), 0);
        c.due("LEANING -1", box.of(0, 5), 0);
        c.due("END 1", box.of(0, 3), 1);
        c.due("LEANING 0", box.of(1, 5), 1);
        c.due("left", box.left(0), 125 - 5 - 1);
        Tape.put(box, 0, 5, 0, 0, 1, 1);
        c.due("PLACES beyond the box", box.row(), 0);
        c.due("empty again", box.row(), -6);
        int[][] wrong = {{3, 0, 0, 0, 1, 1}, {0, 0, 5, 0, 1, 1}, {0, 0, 0, 2, 1, 1}, {0, 0, 0, 0, 0, 1},
            {0, 0, 0, 0, 7, 1}, {0, 0, 0, 0, 1, 3}, {255, 0, 0, 0, 1, 1}, {0, 0, 0, 0, 1, 255}, {0, 0, 0, 0, 1}};
        for (int[] bytes : wrong) {
            Tape.put(box, bytes);
            c.due("wrong", box.row(), 0);
            c.due("rind", box.rinds(), 1);
        }
        for (int i = 0; i < 13; i++) {
            box.hole(0, 0, 0, 0, 1, 0);
        }
        Tape.put(box, 2, 0, 0, 0, 1, 1, 2, 0, 0, 0, 2, 1, 2, 0, 0, 0, 3, 1);
        c.due("room for one", box.row(), 1);
        c.due("two are rind", box.rinds(), 2);
        c.due("the first of them", box.of(15, 4), 1);
    }

    static void promise9(Checks c) {
        CheeseCube box = new CheeseCube();
        c.due("ahead of any", box.rinds(), 0);
        Tape.put(box, 9, 0, 0, 0, 1, 1, 0, 0, 0, 0, 1, 1, 0);
        box.row();
        c.due("one can't be, one is cut off", box.rinds(), 2);
        box.row();
        c.due("a REFUSED one tells nothing", box.rinds(), 2);
        box.image(0);
        Tape.put(box, 0, 0, 0, 0, 1, 1);
        box.row();
        c.due("none", box.rinds(), 0);
        box.back(0);
        c.due("IMAGES do not keep it", box.rinds(), 0);
    }

    static void promise10(Checks c) {
        CheeseCube box = new CheeseCube();
        c.due("no text", box.law(), -6);
        c.due("blanks", Tape.law(box, "   "), -6);
        c.due("their end", box.fault(), 3);
        c.due("the first", Tape.law(box, "takes"), 0);
        c.due("the tape is empty", box.count(7), 0);
        c.due("not in FORCE", box.count(13), -1);
        c.due("the second", Tape.law(box, " shuts "), 1);
        c.due("wrong", Tape.law(box, "takes takes"), -6);
        c.due("the tape is empty then, too", box.count(7), 0);
        for (int i = 2; i < 6; i++) {
            c.due("more", Tape.law(box, "weighs " + i), i);
        }
        c.due("no room", Tape.law(box, "takes takes"), -5);
        c.due("the tape is empty then, too", box.count(7), 0);
        c.due("it was not read", box.fault(), -1);
        c.due("laws", box.count(4), 6);
        c.due("no room goes ahead", box.law(), -5);
        whatCountsAsText(c);
        limits(c);
    }

    private static void good(Checks c, String text) {
        CheeseCube box = new CheeseCube();
        c.due(text, Tape.law(box, text), 0);
        c.due("fault of " + text, box.fault(), -1);
    }

    private static void bad(Checks c, String text, int place) {
        CheeseCube box = new CheeseCube();
        c.due(text, Tape.law(box, text), -6);
        c.due("fault of " + text, box.fault(), place);
    }

    private static void whatCountsAsText(Checks c) {
        for (String text : new String[] {"takes", "shuts;takes", "weighs 1", "weighs x+y-z*holes/rind",
            "takes if x<1", "takes if x>1and y=2or z=3", "takes if not not x=1", "takes if (x=1)",
            "takes if [x+1]*2=[[y]]", "takes if (((x=1 or y=1) and z=1))", "weighs day if not (x=1)",
            "weighs 0001000", "shuts if[x]<[y]", "weighs[1]if(x=1)"}) {
            good(c, text);
        }
        bad(c, "weighs", 6);
        bad(c, "weighs ", 7);
        bad(c, "weigh 1", 0);
        bad(c, "weighs1 2", 8);
        bad(c, "weighsx", 0);
        bad(c, "weighs x x", 9);
        bad(c, "weighs (1)", 7);
        bad(c, "weighs X", 7);
        bad(c, "weighs -1", 7);
        bad(c, "weighs 1 +", 10);
        bad(c, "weighs 1 + * 2", 11);
        bad(c, "weighs [1", 9);
        bad(c, "weighs [1)", 9);
        bad(c, "weighs 1]", 8);
        bad(c, "takes x", 6);
        bad(c, "takes if", 8);
        bad(c, "takes if x", 10);
        bad(c, "takes if x 1", 11);
        bad(c, "takes if x < 1 < 2", 15);
        bad(c, "takes if x <", 12);
        bad(c, "takes if x <= 1", 12);
        bad(c, "takes if (x) < 1", 11);
        bad(c, "takes if [x = 1]", 12);
        bad(c, "takes if (x = 1", 15);
        bad(c, "takes if (x = 1]", 15);
        bad(c, "takes if not", 12);
        bad(c, "takes if x = 1 and", 18);
        bad(c, "takes if x = 1 or or y = 1", 18);
        bad(c, "takes if x = 1 if y = 1", 15);
        bad(c, "takes;", 6);
        bad(c, "takes;;takes", 6);
        bad(c, ";takes", 0);
        bad(c, "takes.", 5);
        bad(c, "takes\ttakes", 5);
        bad(c, "\u00e9", 0);
        bad(c, "takes if x\u00e9 = 1", 10);
        bad(c, "if x = 1", 0);
        bad(c, "takes if day9 = 1", 12);
        bad(c, "takes if 9day = 1", 10);
    }

    private static void limits(Checks c) {
        good(c, "takes;".repeat(11) + "takes");
        bad(c, "takes;".repeat(12) + "takes", 72);
        bad(c, "takes;".repeat(12) + " 7", 73);
        bad(c, "takes;".repeat(12), 72);
        good(c, "weighs 1" + "+1".repeat(49));
        bad(c, "weighs 1" + "+1".repeat(50), 107);
        bad(c, "weighs 1" + "+x".repeat(39) + "; weighs 1" + "+y".repeat(10), 115);
        good(c, TEST + "(".repeat(8) + "x=1" + ")".repeat(8));
        bad(c, TEST + "(".repeat(9) + "x=1" + ")".repeat(9), 17);
        good(c, "weighs " + "[".repeat(8) + "x" + "]".repeat(8));
        bad(c, "weighs " + "[".repeat(9) + "x" + "]".repeat(9), 15);
        good(c, TEST + "((((([[[x]]]=1)))))");
        bad(c, TEST + "((((([[[[x]]]]=1)))))", 17);
        good(c, "weighs " + "[[[[[[[[x]]]]]]]] + [[[[[[[[x]]]]]]]]");
        good(c, "weighs 1000");
        bad(c, "weighs 1001", 7);
        bad(c, "weighs 99999999999999999999", 7);
        bad(c, "weighs 4294967297", 7);
        good(c, "weighs " + "0".repeat(390) + "7");
        good(c, TEST + "not ".repeat(96) + "x=1");
        bad(c, "x".repeat(400), 0);
        good(c, " ".repeat(395) + "takes");
        bad(c, " ".repeat(396) + "take", 396);
        bad(c, " ".repeat(400), 400);
    }

    static void promise11(Checks c) {
        CheeseCube box = new CheeseCube();
        c.due("ahead of any", box.fault(), -1);
        box.law();
        c.due("an empty text", box.fault(), 0);
        Tape.law(box, "takes 7");
        c.due("a place", box.fault(), 6);
        box.image(0);
        Tape.law(box, "takes");
        c.due("without", box.fault(), -1);
        box.back(0);
        c.due("IMAGES do not keep it", box.fault(), -1);
        Tape.law(box, "7");
        for (int i = 0; i < 6; i++) {
            Tape.law(box, "takes");
        }
        Tape.law(box, "takes 7");
        c.due("the one without room was not read", box.fault(), -1);
    }

    static void promise12(Checks c) {
        CheeseCube box = new CheeseCube();
        c.due("no LAW", box.force(0), -2);
        c.due("NONE", box.force(-1), -1);
        Tape.law(box, "takes if x = 0");
        Tape.law(box, "takes if x < 2");
        c.due("the first", box.force(0), -1);
        c.due("left", box.left(0), 100);
        c.due("the second", box.force(1), 0);
        c.due("left", box.left(0), 75);
        c.due("a third", box.force(2), -2);
        c.due("below NONE", box.force(-2), -2);
        c.due("status", box.status(), -2);
        c.due("count(13)", box.count(13), 1);
        c.due("NONE", box.force(-1), 1);
        c.due("left", box.left(0), 125);
    }

    // ---- what LAWS say

    private static CheeseCube under(String text) {
        CheeseCube box = new CheeseCube();
        Tape.law(box, text);
        box.force(0);
        box.terms(3, 42);
        return box;
    }

    private static void weighs(Checks c, String text, int cell, int due) {
        c.due(text, under(text).cell(cell, 1), due);
    }

    private static void takes(Checks c, String test, int many) {
        c.due(test, 125 - under(TEST + test).left(0), many);
    }

    static void sums(Checks c) {
        int cell = 36 * 3 + 6 * 4 + 1;
        weighs(c, "weighs 10*x + y", cell, 14);
        weighs(c, "weighs z", cell, 3);
        weighs(c, "weighs 10 + rind", cell, 11);
        weighs(c, "weighs 10 + rind", 0, 13);
        weighs(c, "weighs 10 + rind", 36 + 7, 10);
        weighs(c, "weighs day", cell, 42);
        weighs(c, "weighs 50 - 5 - 6", cell, 39);
        weighs(c, "weighs 50 - [5 - 6]", cell, 51);
        weighs(c, "weighs 2 + 3 * 4", cell, 14);
        weighs(c, "weighs 60 / 4 / 2", cell, 7);
        weighs(c, "weighs 7 / 2 * 2", cell, 6);
        weighs(c, "weighs 10 + [0 - 7] / 2", cell, 7);
        weighs(c, "weighs 0", cell, 1);
        weighs(c, "weighs 0 - 1000", cell, 1);
        weighs(c, "weighs 99", cell, 99);
        weighs(c, "weighs 100", cell, 99);
        weighs(c, "weighs 3; weighs 5", cell, 5);
        weighs(c, "weighs 3; weighs 5 if x = 0", cell, 3);
        weighs(c, "weighs 7; weighs 1000 * 1000 * 1000", cell, 99);
        weighs(c, "weighs 7; weighs 1000 * 1000 * 1000 + 1", cell, 7);
        weighs(c, "weighs 7; weighs 0 - 1000 * 1000 * 1000", cell, 1);
        weighs(c, "weighs 7; weighs 0 - 1000 * 1000 * 1000 - 1", cell, 7);
        weighs(c, "weighs 7; weighs 1000 * 1000 * 1000 + 1 - 1", cell, 7);
        weighs(c, "weighs 7; weighs 1000 * 1000 * 1000 * 1000 * 0", cell, 7);
        weighs(c, "weighs 7; weighs 1000 * 1000 * 1000 * 1000 * 1000 * 1000 * 1000", cell, 7);
        weighs(c, "weighs 7; weighs 5 / 0", cell, 7);
        weighs(c, "weighs 7; weighs 0 * [5 / [x - 1]]", cell, 7);
        weighs(c, "weighs 7; weighs 5 if 1 / 0 = 1", cell, 7);
        weighs(c, "weighs 7; weighs 1 / 0 if x = 0", cell, 7);
    }

    static void tests(Checks c) {
        c.due("the twelfth clause", under("shuts;".repeat(11) + "takes").left(0), 0);
        takes(c, "x = 0", 25);
        takes(c, "x < 2", 50);
        takes(c, "x > 2", 50);
        takes(c, "not x = 0", 100);
        takes(c, "not not x = 0", 25);
        takes(c, "not not not x = 0", 100);
        takes(c, "x = 0 and y = 0", 5);
        takes(c, "x = 0 or y = 0", 45);
        takes(c, "x = 0 or y = 0 and z = 0", 29);
        takes(c, "(x = 0 or y = 0) and z = 0", 9);
        takes(c, "not x = 0 and y = 0", 20);
        takes(c, "not (x = 0 and y = 0)", 120);
        takes(c, "x + y + z = 0 or x + y + z = 12", 2);
        takes(c, "1 / 0 = 1", 0);
        takes(c, "not 1 / 0 = 1", 0);
        takes(c, "x = x or 1 / 0 = 1", 125);
        takes(c, "1 / 0 = 1 or x = x", 0);
        takes(c, "x = 0 and 1 / 0 = 1 or y = 0", 20);
        takes(c, "x < 0 and 1 / 0 = 1 or x = x", 125);
        takes(c, "not (x < 0 and 1 / 0 = 1)", 125);
        takes(c, "(x = 0 or 1 / x = 1) and y = y", 50);
        takes(c, "10 / x > 4", 50);
        takes(c, "day = 42", 125);
        takes(c, "rind = 3", 8);
        takes(c, "holes = 0", 125);
        CheeseCube box = under("takes if holes = 1; shuts if holes > 0; weighs holes");
        box.hole(2, 0, 0, 0, 1, 0);
        c.due("a hole takes it anyway", box.left(0), 124);
        c.due("SHUT by holes", box.cell(0, 2), 1);
        c.due("clauses of one kind: any", 125 - under("takes if x = 0; takes if x = 4; takes if x = 9").left(0), 50);
        c.due("takes all", under("takes").left(0), 0);
        c.due("the rind of a smaller box", rindsOfSmaller(), 6);
    }

    private static int rindsOfSmaller() {
        CheeseCube box = under("weighs rind");
        for (int axis = 0; axis < 3; axis++) {
            box.terms(axis, 1);
        }
        return box.left(1);
    }
}
