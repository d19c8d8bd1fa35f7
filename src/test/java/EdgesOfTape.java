/** Boundary cases of promises 6 to 12: the TAPE, ROWS of HOLES, LAWS as TEXTS. */
final class EdgesOfTape {
    private EdgesOfTape() {
    }

    static void all(Edges e) {
        feed(e);
        end(e);
        row(e);
        rinds(e);
        law(e);
        fault(e);
        force(e);
    }

    private static CheeseCube withBytes(int many) {
        CheeseCube box = new CheeseCube();
        for (int i = 0; i < many; i += 20) {
            box.feed(0, 0, 0, 0, 0);
        }
        box.end(many);
        return box;
    }

    private static CheeseCube withLaws(int many) {
        CheeseCube box = new CheeseCube();
        for (int i = 0; i < many; i++) {
            Tape.law(box, "weighs " + (10 + i));
        }
        return box;
    }

    private static void feed(Edges e) {
        e.edge(6, "NONE, if there would be more than 400.", "20 bytes behind 380 will do, behind 381 they are too many", c -> {
            CheeseCube box = withBytes(380);
            c.due("400", box.feed(1, 2, 3, 4, 5), 400);
            Edges.none(c, box, "feed", 1, 2, 3, 4, 5);
            box.end(381);
            Edges.none(c, box, "feed", 1, 2, 3, 4, 5);
            box.end(380);
            c.due("400 again", box.feed(1, 2, 3, 4, 5), 400);
        });
        e.edge(6, "NONE, if there would be more than 400.", "no byte of it comes", c -> {
            CheeseCube box = withBytes(386);
            box.feed(0x01010101, 0, 0, 0, 0);
            c.due("386", box.count(7), 386);
            box.end(0);
            Tape.put(box, 0, 0, 0, 0, 1, 1);
            for (int i = 0; i < 19; i++) {
                box.feed(0, 0, 0, 0, 0);
            }
            c.due("386 again", box.count(7), 386);
            Edges.none(c, box, "feed", -1, -1, -1, -1, -1);
            c.due("the first six are a HOLE", box.row(), 1);
        });
        e.edge(6, "Twenty bytes come behind the TAPE", "20 on an empty one", c -> {
            CheeseCube box = new CheeseCube();
            c.due("20", box.feed(0, 0, 0, 0, 0), 20);
            box.end(0);
            c.due("20 again", box.feed(-1, -1, -1, -1, -1), 20);
            box.law();
            c.due("20 behind law()", box.feed(0, 0, 0, 0, 0), 20);
            box.row();
            c.due("20 behind row()", box.feed(0, 0, 0, 0, 0), 20);
            box.end(7);
            c.due("27", box.feed(0, 0, 0, 0, 0), 27);
        });
        e.edge(6, "four of each number, the highest first", "the least and the greatest number", c -> {
            CheeseCube box = new CheeseCube();
            Tape.put(box, Tape.bytes("takes"));
            box.feed(Integer.MIN_VALUE, 0, 0, 0, 0);
            box.law();
            c.due("128 is a TOKEN", box.fault(), 5);
            Tape.put(box, Tape.bytes("takes "));
            box.feed(0x20202020, Integer.MAX_VALUE, -1, 0, 0);
            box.law();
            c.due("127 is a TOKEN", box.fault(), 10);
            box.feed(0x20207461, 0x6b657320, 0x20202020, 0x202020ff, 0x20202020);
            box.law();
            c.due("255 is a TOKEN", box.fault(), 15);
            box.feed(0x02000000, 0x01010200, 0x01000101, 0, 0);
            box.end(12);
            c.due("two HOLES", box.row(), 2);
            c.due("the last byte", box.of(1, 5), 1);
            c.due("v 1", box.of(1, 2), 1);
        });
    }

    private static void end(Edges e) {
        e.edge(7, "The TAPE has its first n bytes alone: n.", "none, one, all", c -> {
            CheeseCube box = new CheeseCube();
            c.due("0 of 0", box.end(0), 0);
            box = withBytes(400);
            c.due("400 of 400", box.end(400), 400);
            c.due("399", box.end(399), 399);
            c.due("1", box.end(1), 1);
            c.due("1 of 1", box.end(1), 1);
            c.due("0", box.end(0), 0);
            c.due("TAPE", box.count(7), 0);
        });
        e.edge(7, "NONE, if it has not so many, or n is below 0.", "one too many, -1, far ones", c -> {
            CheeseCube box = new CheeseCube();
            Edges.none(c, box, "end", 1);
            Edges.none(c, box, "end", -1);
            box = withBytes(20);
            Edges.none(c, box, "end", 21);
            Edges.none(c, box, "end", -1);
            Edges.noneFar(c, box, 0, "end", 1);
            box = withBytes(400);
            Edges.none(c, box, "end", 401);
        });
        e.edge(7, "The TAPE has its first n bytes alone: n.", "those behind n do not come again", c -> {
            CheeseCube box = new CheeseCube();
            Tape.put(box, Tape.bytes("takes if x = 0; shuts takes takes takes"));
            box.end(14);
            box.feed(0x20202020, 0x20202020, 0x20202020, 0x20202020, 0x20202020);
            c.due("blanks behind the first 14", box.law(), 0);
        });
    }

    private static void row(Edges e) {
        e.edge(8, "-6 the TAPE is empty.", "a new one, one that ended at 0, one that became HOLES or a LAW", c -> {
            CheeseCube box = new CheeseCube();
            Edges.refused(c, box, -6, "row");
            box.feed(0, 0, 0, 0, 0);
            box.end(0);
            Edges.refused(c, box, -6, "row");
            Tape.put(box, 0, 0, 0, 0, 1, 1);
            box.row();
            Edges.refused(c, box, -6, "row");
            Tape.law(box, "takes");
            Edges.refused(c, box, -6, "row");
            c.due("one HOLE came", box.count(3), 1);
        });
        e.edge(8, "A ROW, the TAPE is empty then: how many came.", "none came: it is not REFUSED", c -> {
            CheeseCube box = new CheeseCube();
            Tape.put(box, 9);
            c.due("none", box.row(), 0);
            c.due("status", box.status(), 0);
            c.due("TAPE", box.count(7), 0);
        });
        e.edge(8, "A ROW, the TAPE is empty then: how many came.", "what they go through is not LEFT at once", c -> {
            CheeseCube box = new CheeseCube();
            Tape.put(box, 2, 4, 4, 0, 6, 1, 2, 9, 9, 0, 6, 1);
            box.row();
            c.due("LEFT", box.left(0), 120);
            c.due("the last CELL", box.cell(144 + 24 + 4, 3), 1);
        });
        e.edge(8, "AXIS, u, v, END, DEEP, LEANING and 1", "the least and the greatest of each", c -> {
            CheeseCube box = BoxTest.box(6, 6, 6);
            Tape.put(box, 0, 0, 0, 0, 1, 0, 2, 5, 5, 1, 6, 2);
            c.due("both", box.row(), 2);
            int[] least = {0, 0, 0, 0, 1, 0};
            int[] greatest = {2, 5, 5, 1, 6, 2};
            for (int what = 0; what < 6; what++) {
                c.due("least " + what, box.of(0, what), least[what]);
                c.due("greatest " + what, box.of(1, what), greatest[what]);
            }
            c.due("no RIND", box.rinds(), 0);
        });
        e.edge(8, "AXIS, u, v, END, DEEP, LEANING and 1", "six bytes that are all unlike", c -> {
            CheeseCube box = new CheeseCube();
            int[] bytes = {0, 3, 4, 1, 5, 2, 2, 4, 3, 0, 5, 1};
            Tape.put(box, bytes);
            c.due("both", box.row(), 2);
            for (int i = 0; i < bytes.length; i++) {
                c.due("byte " + i, box.of(i / 6, i % 6), bytes[i]);
            }
        });
        e.edge(8, "one that can't be", "each byte one too many, DEEP 0, 128, 255", c -> {
            int[] good = {1, 1, 1, 1, 1, 1};
            int[] most = {2, 4, 4, 1, 6, 2};
            for (int i = 0; i < 6; i++) {
                for (int one : new int[] {most[i] + 1, 128, 255, i == 4 ? 0 : 254}) {
                    CheeseCube box = new CheeseCube();
                    int[] bytes = good.clone();
                    bytes[i] = one;
                    Tape.put(box, bytes);
                    c.due("byte " + i + " is " + one, box.row(), 0);
                    c.due("RIND", box.rinds(), 1);
                    c.due("none is there", box.count(3), 0);
                }
            }
        });
        e.edge(8, "one that can't be", "those behind it come", c -> {
            CheeseCube box = new CheeseCube();
            Tape.put(box, 0, 5, 0, 0, 1, 1, 0, 4, 0, 0, 1, 1, 3, 0, 0, 0, 1, 1, 1, 4, 0, 0, 1, 1);
            c.due("two", box.row(), 2);
            c.due("two RIND", box.rinds(), 2);
            c.due("the second", box.of(1, 0), 1);
        });
        e.edge(8, "one within which the TAPE ends", "1 to 5 bytes of it", c -> {
            for (int many = 1; many <= 5; many++) {
                CheeseCube box = new CheeseCube();
                int[] bytes = java.util.Arrays.copyOf(new int[] {0, 0, 0, 0, 1, 1, 1, 0, 0, 0, 1, 1}, 6 + many);
                Tape.put(box, bytes);
                c.due(many + " bytes more", box.row(), 1);
                c.due("RIND", box.rinds(), 1);
                Tape.put(box, java.util.Arrays.copyOf(bytes, many));
                c.due(many + " bytes", box.row(), 0);
                c.due("RIND", box.rinds(), 1);
            }
            CheeseCube box = new CheeseCube();
            Tape.put(box, 0, 0, 0, 0, 1, 1);
            box.row();
            c.due("six bytes: no RIND", box.rinds(), 0);
        });
        e.edge(8, "one for which there is no room is RIND: none", "the 17th HOLE", c -> {
            CheeseCube box = new CheeseCube();
            int[] bytes = new int[17 * 6];
            for (int i = 0; i < bytes.length; i++) {
                bytes[i] = i % 6 > 3 ? 1 : 0;
            }
            Tape.put(box, bytes);
            c.due("sixteen", box.row(), 16);
            c.due("RIND", box.rinds(), 1);
            Tape.put(box, 0, 0, 0, 0, 1, 1);
            c.due("none", box.row(), 0);
            c.due("it is not REFUSED", box.status(), 0);
            c.due("RIND", box.rinds(), 1);
            box.stop(0);
            Tape.put(box, 0, 0, 0, 0, 1, 1, 0, 0, 0, 0, 1, 1);
            c.due("one", box.row(), 1);
        });
        e.edge(8, "the TAPE's bytes by sixes", "400 bytes: 66 of them and four bytes", c -> {
            CheeseCube box = withBytes(400);
            c.due("DEEP 0", box.row(), 0);
            c.due("RIND", box.rinds(), 67);
            for (int i = 0; i < 20; i++) {
                box.feed(0x01010101, 0x01010101, 0x01010101, 0x01010101, 0x01010101);
            }
            c.due("sixteen have room", box.row(), 16);
            c.due("RIND", box.rinds(), 51);
            c.due("TAPE", box.count(7), 0);
        });
    }

    private static void rinds(Edges e) {
        e.edge(9, "(0 ahead of any)", "a new object, and behind a REFUSED row()", c -> {
            CheeseCube box = new CheeseCube();
            c.due("new", box.rinds(), 0);
            box.row();
            c.due("REFUSED", box.rinds(), 0);
        });
        e.edge(9, "How many were RIND in the latest row() that was not REFUSED", "a REFUSED one between", c -> {
            CheeseCube box = withBytes(13);
            box.row();
            c.due("three", box.rinds(), 3);
            Edges.refused(c, box, -6, "row");
            c.due("three still", box.rinds(), 3);
            c.due("asked twice", box.rinds(), 3);
            Tape.put(box, 0, 0, 0, 0, 1, 1);
            box.row();
            c.due("none of one that is whole", box.rinds(), 0);
        });
    }

    private static void law(Edges e) {
        e.edge(10, "LAWS are TEXTS, 6 at most", "the 6th is 5, there is no room for a 7th", c -> {
            CheeseCube box = withLaws(5);
            c.due("the 6th", Tape.law(box, "takes"), 5);
            Tape.put(box, Tape.bytes("takes"));
            Edges.refused(c, box, -5, "law");
            c.due("LAWS", box.count(4), 6);
        });
        e.edge(10, "-5 (ahead of reading it; the TAPE is empty then, too)", "a wrong TEXT, an empty TAPE", c -> {
            CheeseCube box = withLaws(6);
            Tape.put(box, Tape.bytes("takes takes"));
            Edges.refused(c, box, -5, "law");
            c.due("not read", box.fault(), -1);
            c.due("TAPE", box.count(7), 0);
            Edges.refused(c, box, -5, "law");
        });
        e.edge(10, "-6 (blanks alone: FAULT at the end)", "no byte, one blank, 400 blanks", c -> {
            CheeseCube box = new CheeseCube();
            for (int many : new int[] {0, 1, 20, 400}) {
                Tape.put(box, Tape.bytes(" ".repeat(many)));
                Edges.refused(c, box, -6, "law");
                c.due(many + " blanks", box.fault(), many);
            }
        });
        e.edge(10, "The TAPE, which is empty then, becomes a LAW: its number.", "read well, or not", c -> {
            CheeseCube box = new CheeseCube();
            c.due("well", Tape.law(box, "takes"), 0);
            c.due("TAPE", box.count(7), 0);
            c.due("not", Tape.law(box, "take"), -6);
            c.due("TAPE", box.count(7), 0);
            c.due("the next number", Tape.law(box, "takes"), 1);
            c.due("a LAW is not in FORCE by itself", box.count(13), -1);
        });
        e.edge(10, "on a TAPE of at most 400 bytes", "a TEXT of 400 bytes, of one more than a cut leaves", c -> {
            CheeseCube box = new CheeseCube();
            String text = "weighs 7 if x = 0" + " ".repeat(400 - 17 - 7) + "or y= 0";
            c.due("400 bytes", text.length(), 400);
            c.due("a LAW", Tape.law(box, text), 0);
            box.force(0);
            c.due("its last byte counts", box.cell(1, 1), 7);
            Tape.put(box, Tape.bytes(text));
            box.end(399);
            c.due("without it", box.law(), -6);
            c.due("FAULT at the end", box.fault(), 399);
        });
    }

    private static void fault(Edges e) {
        e.edge(11, "its place; NONE without.", "ahead of any law(), behind one that is read well", c -> {
            CheeseCube box = new CheeseCube();
            c.due("new", box.fault(), -1);
            box.row();
            c.due("row() reads none", box.fault(), -1);
            Tape.law(box, "!");
            c.due("the first byte", box.fault(), 0);
            Tape.law(box, "takes");
            c.due("without", box.fault(), -1);
        });
        e.edge(11, "FAULT of the latest law() that read a TEXT", "the one without room read none", c -> {
            CheeseCube box = withLaws(5);
            Tape.law(box, "takes 1");
            Tape.put(box, Tape.bytes("takes"));
            box.image(0);
            c.due("a place", box.fault(), 6);
            box.law();
            c.due("read well", box.fault(), -1);
            Tape.law(box, "!");
            c.due("no room: not read", box.fault(), -1);
            box.back(0);
            Tape.law(box, "takes 1");
            Tape.law(box, "takes");
            c.due("the sixth", box.fault(), -1);
            box.back(0);
            Tape.law(box, "takes 1");
            c.due("six again", box.fault(), 6);
        });
        e.edge(11, "(the end's: the TEXT's length)", "blanks behind are of the TEXT, bytes cut off are not", c -> {
            CheeseCube box = new CheeseCube();
            Tape.law(box, "weighs 1 + ");
            c.due("11", box.fault(), 11);
            Tape.put(box, Tape.bytes("weighs 1 + 1"));
            box.end(10);
            box.law();
            c.due("10", box.fault(), 10);
            Tape.law(box, " ".repeat(390) + "takes if ");
            c.due("399", box.fault(), 399);
        });
        e.edge(11, "the first TOKEN that can't go on there", "its first byte, be there blanks ahead or none", c -> {
            CheeseCube box = new CheeseCube();
            Tape.law(box, "takes if x = 1and 2x");
            c.due("x behind 2", box.fault(), 19);
            Tape.law(box, "   takess");
            c.due("a longer word", box.fault(), 3);
            Tape.law(box, "takes    if     x");
            c.due("the end", box.fault(), 17);
            Tape.law(box, "weighs 1    1   1");
            c.due("the first of two", box.fault(), 12);
        });
    }

    private static void force(Edges e) {
        e.edge(12, "-2.", "no LAW at all, one behind the last, below NONE", c -> {
            CheeseCube box = new CheeseCube();
            Edges.refused(c, box, -2, "force", 0);
            Edges.refused(c, box, -2, "force", -2);
            for (int i = 0; i < 6; i++) {
                Tape.law(box, "weighs " + (20 + i));
                Edges.refused(c, box, -2, "force", i + 1);
            }
            c.due("the last", box.force(5), -1);
            Edges.refused(c, box, -2, "force", 6);
            Edges.refusedFar(c, box, -2, 0, "force", 0);
            c.due("it stays", box.cell(0, 1), 25);
        });
        e.edge(12, "(NONE: none)", "of none, of one", c -> {
            CheeseCube box = withLaws(1);
            c.due("none was", box.force(-1), -1);
            c.due("none was", box.force(0), -1);
            c.due("10", box.cell(0, 1), 10);
            c.due("the first was", box.force(-1), 0);
            c.due("1", box.cell(0, 1), 1);
            c.due("none was", box.force(-1), -1);
        });
        e.edge(12, "A LAW is in FORCE", "the same again", c -> {
            CheeseCube box = withLaws(2);
            box.force(1);
            c.due("the second was", box.force(1), 1);
            c.due("is", box.count(13), 1);
        });
    }
}
