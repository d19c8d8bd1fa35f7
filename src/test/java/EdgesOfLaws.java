/** Boundary cases of what a TEXT may be (promises 10, 11), and of what a LAW says of a CELL (promise 13). */
final class EdgesOfLaws {
    /** x 1, y 4, z 3 in a BOX of five. */
    private static final int CELL = 36 * 3 + 6 * 4 + 1;

    private EdgesOfLaws() {
    }

    static void all(Edges e) {
        tokens(e);
        grammar(e);
        limits(e);
        words(e);
        broken(e);
        holding(e);
        asking(e);
    }

    private static void good(Checks c, String text) {
        CheeseCube box = new CheeseCube();
        c.due(text, Tape.law(box, text), 0);
        c.due("FAULT of " + text, box.fault(), -1);
        c.due("LAWS", box.count(4), 1);
    }

    private static void bad(Checks c, String text, int place) {
        CheeseCube box = new CheeseCube();
        Tape.put(box, Tape.bytes(text));
        Edges.refused(c, box, -6, "law");
        c.due("FAULT of " + text, box.fault(), place);
    }

    private static CheeseCube under(String text) {
        CheeseCube box = new CheeseCube();
        Tape.law(box, text);
        box.force(0);
        return box;
    }

    private static void weighs(Checks c, String text, int due) {
        c.due(text, under(text).cell(CELL, 1), due);
    }

    private static void takes(Checks c, String test, int many) {
        c.due("takes if " + test, 125 - under("takes if " + test).left(0), many);
    }

    private static void tokens(Edges e) {
        e.edge(10, "longest rows of letters a .. z", "a and z are letters, the bytes beside them are none", c -> {
            bad(c, "takesa", 0);
            bad(c, "takesz", 0);
            bad(c, "takes`", 5);
            bad(c, "takes{", 5);
            bad(c, "takesA", 5);
            bad(c, "takesZ", 5);
            bad(c, "Takes", 0);
            bad(c, "weighs xy", 7);
            bad(c, "weighs dayx", 7);
        });
        e.edge(10, "of digits", "0 and 9 are digits, the bytes beside them are none", c -> {
            good(c, "weighs 90");
            good(c, "weighs 09");
            bad(c, "weighs 9:", 8);
            bad(c, "weighs 0.", 8);
            good(c, "weighs 0/9");
            good(c, "weighs 1if x=0");
            good(c, "weighs x/9if 0<x");
            bad(c, "weighs 1 0", 9);
            bad(c, "weighs x1", 8);
            bad(c, "weighs 1x", 8);
        });
        e.edge(10, "single other bytes", "each stands alone, 0 to 31 and 33 to 255 too", c -> {
            good(c, "weighs[[1]]");
            good(c, "takes if((x<1))and(y>1)");
            bad(c, "takes if x==1", 11);
            bad(c, "takes if x<>1", 11);
            for (int one : new int[] {0, 1, 9, 10, 13, 31, 33, 95, 127, 128, 160, 233, 255}) {
                bad(c, "takes" + (char) one, 5);
                bad(c, (char) one + "takes", 0);
            }
        });
        e.edge(10, "any blanks (32) between", "none and many, ahead, between and behind", c -> {
            good(c, "takes if x=0;shuts;weighs 1");
            good(c, "    takes    if    x   =  0  ;   shuts  ");
            bad(c, "ta kes", 0);
            bad(c, "takes i f x=0", 6);
            good(c, "weighs[1]if(x<1)or(y<1)");
        });
    }

    private static void grammar(Edges e) {
        e.edge(10, "CLAUSE: (\"weighs\" SUM | \"takes\" | \"shuts\") [\"if\" TEST].", "what lacks, what is too much", c -> {
            good(c, "takes");
            good(c, "shuts");
            good(c, "weighs 0");
            bad(c, "weighs", 6);
            bad(c, "weighs if x=0", 7);
            bad(c, "weighs ; takes", 7);
            bad(c, "takes 1", 6);
            bad(c, "shuts x if x=0", 6);
            bad(c, "takes if", 8);
            bad(c, "takes if if", 9);
            bad(c, "if x=0", 0);
            bad(c, "takes if x=0 if y=0", 13);
            bad(c, "takes shuts", 6);
        });
        e.edge(10, "CLAUSE {\";\" CLAUSE}", "a clause that lacks between, ahead, behind", c -> {
            bad(c, ";", 0);
            bad(c, ";takes", 0);
            bad(c, "takes;", 6);
            bad(c, "takes;;shuts", 6);
            bad(c, "takes ; ", 8);
            bad(c, "takes if x=0;", 13);
            bad(c, "takes, shuts", 5);
        });
        e.edge(10, "TEST: BOTH {\"or\" BOTH}.", "a part that lacks", c -> {
            bad(c, "takes if or x=0", 9);
            bad(c, "takes if x=0 or", 15);
            bad(c, "takes if x=0 or ; shuts", 16);
            bad(c, "takes if x=0 or or y=0", 16);
            bad(c, "takes if x=0 y=0", 13);
        });
        e.edge(10, "BOTH: PLAIN {\"and\" PLAIN}.", "a part that lacks", c -> {
            bad(c, "takes if and x=0", 9);
            bad(c, "takes if x=0 and", 16);
            bad(c, "takes if x=0 and or y=0", 17);
            bad(c, "takes if x=0 and )", 17);
        });
        e.edge(10, "PLAIN: \"not\" PLAIN | \"(\" TEST \")\" | SUM (\"<\" | \">\" | \"=\") SUM.", "a part that lacks", c -> {
            bad(c, "takes if not", 12);
            bad(c, "takes if x=0 not y=0", 13);
            bad(c, "takes if x=not y", 11);
            bad(c, "takes if ()", 10);
            bad(c, "takes if (x=0", 13);
            bad(c, "takes if x=0)", 12);
            bad(c, "takes if (x=0]", 13);
            bad(c, "takes if (x)=0", 11);
            bad(c, "takes if x", 10);
            bad(c, "takes if <1", 9);
            bad(c, "takes if x<", 11);
            bad(c, "takes if x<1<2", 12);
            bad(c, "takes if (x=0)=0", 14);
        });
        e.edge(10, "SUM: TERM {(\"+\" | \"-\") TERM}. TERM: PART {(\"*\" | \"/\") PART}.", "a part that lacks", c -> {
            bad(c, "weighs -1", 7);
            bad(c, "weighs +1", 7);
            bad(c, "weighs 1+", 9);
            bad(c, "weighs 1*", 9);
            bad(c, "weighs *1", 7);
            bad(c, "weighs 1--1", 9);
            bad(c, "weighs 1*/1", 9);
            bad(c, "weighs 1 1", 9);
        });
        e.edge(10, "PART: NUMBER (to 1,000) | \"[\" SUM \"]\"", "brackets with nothing, with a TEST, without an end", c -> {
            bad(c, "weighs []", 8);
            bad(c, "weighs [", 8);
            bad(c, "weighs [1", 9);
            bad(c, "weighs 1]", 8);
            bad(c, "weighs [1)", 9);
            bad(c, "weighs (1)", 7);
            bad(c, "takes if [x=1]", 11);
            bad(c, "weighs [takes]", 8);
        });
    }

    private static void limits(Edges e) {
        e.edge(10, "12 at most (FAULT at the 13th's first TOKEN)", "12 clauses, 13, a \";\" behind 12", c -> {
            good(c, "takes;".repeat(11) + "takes");
            bad(c, "takes;".repeat(12) + "takes", 72);
            bad(c, "takes;".repeat(12) + "  takes", 74);
            bad(c, "takes;".repeat(12) + " 5", 73);
            bad(c, "takes;".repeat(12), 72);
            bad(c, "takes;".repeat(12) + ";", 72);
            bad(c, "takes;".repeat(11) + "take", 66);
            bad(c, "takes;".repeat(11) + "takes 1", 72);
            c.due("the 12th HOLDS", under("shuts;".repeat(11) + "weighs 12").cell(0, 1), 12);
        });
        e.edge(10, "NUMBER (to 1,000)", "1000 and 1001, noughts ahead, what wraps around", c -> {
            good(c, "weighs 0");
            good(c, "weighs 1000");
            bad(c, "weighs 1001", 7);
            bad(c, "weighs 2000", 7);
            bad(c, "weighs 10000", 7);
            good(c, "weighs 00001000");
            bad(c, "weighs 00001001", 7);
            good(c, "weighs " + "0".repeat(393));
            bad(c, "weighs 4294967296", 7);
            bad(c, "weighs 4294967297", 7);
            bad(c, "weighs 18446744073709551617", 7);
            bad(c, "weighs " + "9".repeat(393), 7);
            weighs(c, "weighs 1000 - 999 + 1", 2);
            weighs(c, "weighs 00001000 / 0100", 10);
        });
        e.edge(10, "50 PARTS that are NUMBERS and words (FAULT at the 51st)", "50 and 51 of numbers, of words", c -> {
            good(c, "weighs 1" + "+1".repeat(49));
            bad(c, "weighs 1" + "+1".repeat(50), 107);
            good(c, "weighs x" + "*y".repeat(49));
            bad(c, "weighs x" + "*y".repeat(50), 107);
            bad(c, "weighs x" + "*y".repeat(49) + "+", 107);
            bad(c, "weighs x" + "*y".repeat(49) + "+9999", 107);
            weighs(c, "weighs 1" + "+1".repeat(49), 50);
        });
        e.edge(10, "50 PARTS that are NUMBERS and words (FAULT at the 51st)", "of all clauses, of tests and sums", c -> {
            good(c, "takes if x=1" + " or x=1".repeat(24));
            bad(c, "takes if x=1" + " or x=1".repeat(24) + " or x=1", 184);
            good(c, "weighs 1;".repeat(11) + "weighs 1" + "+1".repeat(38));
            bad(c, "weighs 1;".repeat(11) + "weighs 1" + "+1".repeat(39), 184);
            bad(c, "takes if 1" + "+1".repeat(48) + "=1 and x=1", 113);
            good(c, "takes if 1" + "+1".repeat(48) + "=1; takes; shuts");
        });
        e.edge(10, "50 PARTS that are NUMBERS and words (FAULT at the 51st)", "a bracket is none of them", c -> {
            good(c, "weighs [[1]]" + "+[[1]]".repeat(49));
            bad(c, "weighs [[1]]" + "+[[1]]".repeat(50), 309);
        });
        e.edge(10, "50 PARTS that are NUMBERS and words (FAULT at the 51st)", "and 12 clauses, of each TEXT anew", c -> {
            CheeseCube box = new CheeseCube();
            for (int i = 0; i < 3; i++) {
                c.due("50", Tape.law(box, "weighs 1" + "+1".repeat(49)), 2 * i);
                c.due("51", Tape.law(box, "weighs 1" + "+1".repeat(50)), -6);
                c.due("the 51st", box.fault(), 107);
                c.due("12", Tape.law(box, "shuts;".repeat(11) + "weighs 7 if x=0 or y=0"), 2 * i + 1);
                c.due("13", Tape.law(box, "takes;".repeat(13)), i == 2 ? -5 : -6);
                box.force(2 * i);
                c.due("50", box.cell(0, 1), 50);
                c.due("not SHUT", box.cell(0, 2), 0);
                box.force(2 * i + 1);
                c.due("7", box.cell(24, 1), 7);
                c.due("1", box.cell(25, 1), 1);
                c.due("SHUT", box.cell(25, 2), 1);
            }
        });
        e.edge(10, "8 brackets of both kinds within one another (FAULT at the 9th) at most", "8 and 9 of one kind", c -> {
            good(c, "takes if " + "(".repeat(8) + "x=1" + ")".repeat(8));
            bad(c, "takes if " + "(".repeat(9) + "x=1" + ")".repeat(9), 17);
            good(c, "weighs " + "[".repeat(8) + "1" + "]".repeat(8));
            bad(c, "weighs " + "[".repeat(9) + "1" + "]".repeat(9), 15);
            bad(c, "weighs " + "[".repeat(380), 15);
            bad(c, "takes if " + "(".repeat(380), 17);
        });
        e.edge(10, "8 brackets of both kinds within one another (FAULT at the 9th) at most", "of both kinds together", c -> {
            String four = "((((";
            String shut = "))))";
            good(c, "takes if " + four + "[[[[x]]]]=1" + shut);
            bad(c, "takes if " + four + "[[[[[x]]]]]=1" + shut, 17);
            bad(c, "takes if " + four + four + "[x]=1" + shut + shut, 17);
            bad(c, "takes if " + four + four + "x=[1]" + shut + shut, 19);
            bad(c, "takes if " + four + four + "not (x=1)" + shut + shut, 21);
            good(c, "takes if " + four + "(((not (x=1))))" + shut);
            good(c, "takes if " + four + "(((x=[1])))" + shut);
            good(c, "weighs [[[[[[[[x]]]]]]]] if " + four + four + "x=1" + shut + shut);
        });
        e.edge(10, "8 brackets of both kinds within one another (FAULT at the 9th) at most", "beside one another: any", c -> {
            String eight = "[".repeat(8) + "1" + "]".repeat(8);
            good(c, "weighs " + eight + "+" + eight + "*" + eight);
            String both = "(".repeat(8) + "x=1" + ")".repeat(8);
            good(c, "takes if " + both + " and " + both + " or not " + both + "; shuts if " + both);
            good(c, "takes if " + "[1]=1 and ".repeat(20) + "(1=1) and (1=1)");
        });
    }

    private static void words(Edges e) {
        e.edge(13, "holes: how many HOLES go through it", "0, 1 and 16", c -> {
            CheeseCube box = under("weighs holes * 2 + 50");
            c.due("none", box.cell(0, 1), 50);
            for (int i = 1; i <= 16; i++) {
                box.hole(i % 3, 0, 0, 0, 1 + i % 6, 0);
                c.due(i + " holes weigh", box.cell(0, 1), 50 + 2 * i);
                c.due(i + " holes", box.cell(0, 3), i);
            }
        });
        e.edge(13, "rind: how many of its six sides are outside of the BOX", "0 to 6", c -> {
            int[][] sizes = {{3, 3, 3}, {3, 3, 2}, {3, 2, 2}, {2, 2, 2}, {2, 2, 1}, {2, 1, 1}, {1, 1, 1}};
            int[] cells = {36 + 6 + 1, 6 + 1, 1, 0, 0, 0, 0};
            for (int rind = 0; rind < sizes.length; rind++) {
                CheeseCube box = under("weighs 10 + rind");
                for (int axis = 0; axis < 3; axis++) {
                    box.terms(axis, sizes[rind][axis]);
                }
                c.due("rind " + rind, box.cell(cells[rind], 1), 10 + rind);
            }
        });
        e.edge(13, "3 DAY 0 .. 99", "in a LAW, as soon as it changes", c -> {
            CheeseCube box = under("weighs day; takes if day = 99; shuts if day = 0");
            c.due("0 weighs 1", box.cell(0, 1), 1);
            c.due("0 shuts", box.cell(0, 2), 1);
            box.terms(3, 99);
            c.due("99", box.cell(0, 1), 99);
            c.due("99 takes", box.left(0), 0);
            box.terms(3, 100);
            c.due("a REFUSED one changes nothing", box.left(0), 0);
            box.terms(3, 98);
            c.due("98", box.left(1), 125 * 98);
        });
        e.edge(13, "\"x\" | \"y\" | \"z\" | \"holes\" | \"rind\" | \"day\"", "the least and the greatest CELL", c -> {
            CheeseCube box = under("weighs x + 10 * y + 1; shuts if z = 5");
            for (int axis = 0; axis < 3; axis++) {
                box.terms(axis, 6);
            }
            c.due("the least", box.cell(0, 1), 1);
            c.due("x 5, y 5", box.cell(35, 1), 56);
            c.due("z 5", box.cell(215, 2), 1);
            c.due("z 4", box.cell(179, 2), 0);
        });
    }

    private static void broken(Edges e) {
        e.edge(13, "Beyond 1,000,000,000 either way", "just it is not, one more is", c -> {
            weighs(c, "weighs 7; weighs 1000*1000*1000", 99);
            weighs(c, "weighs 7; weighs 1000*1000*1000+1", 7);
            weighs(c, "weighs 7; weighs 0-1000*1000*1000", 1);
            weighs(c, "weighs 7; weighs 0-1000*1000*1000-1", 7);
            weighs(c, "weighs 7; weighs 1000*1000*999+1000*1000", 99);
            weighs(c, "weighs 7; weighs 1000*1000*1000*[0-1]", 1);
            takes(c, "1000*1000*1000 = 1000*1000*1000", 125);
            takes(c, "1000*1000*1000+x > 0", 25);
            takes(c, "0-1000*1000*1000-x < 0", 25);
            takes(c, "not 1000*1000*1000+x > 0", 0);
        });
        e.edge(13, "Beyond 1,000,000,000 either way", "what would wrap around an int, a long", c -> {
            weighs(c, "weighs 7; weighs 1000*1000*1000*3", 7);
            weighs(c, "weighs 7; weighs 1000*1000*1000*5", 7);
            weighs(c, "weighs 7; weighs [1000*1000*1000]*[1000*1000*1000]", 7);
            weighs(c, "weighs 7; weighs [1000*1000*1000]*[0-1000*1000*1000]", 7);
            weighs(c, "weighs 7; weighs 1000" + "*1000".repeat(20), 7);
            weighs(c, "weighs 7; weighs 2" + "*2".repeat(31) + "+50", 7);
            weighs(c, "weighs 7; weighs 2" + "*2".repeat(40) + "*0", 7);
            weighs(c, "weighs 7; weighs 2" + "*2".repeat(28) + "*0+50", 50);
            weighs(c, "weighs 7; weighs 2" + "*2".repeat(29) + "*0+50", 7);
        });
        e.edge(13, "or divided by 0", "by a number, by what is 0 in some CELLS, 0 by 0", c -> {
            weighs(c, "weighs 7; weighs 1/0", 7);
            weighs(c, "weighs 7; weighs 0/0", 7);
            weighs(c, "weighs 7; weighs 0*[1/0]", 7);
            weighs(c, "weighs 7; weighs 50/x", 50);
            weighs(c, "weighs 7; weighs 50/[x-1]", 7);
            takes(c, "10/x>0", 100);
            takes(c, "not 10/x>0", 0);
            takes(c, "10/x<100 or 10/x>99", 100);
        });
        e.edge(13, "/ is cut towards 0", "each sign", c -> {
            weighs(c, "weighs 50+7/2", 53);
            weighs(c, "weighs 50+[0-7]/2", 47);
            weighs(c, "weighs 50+7/[0-2]", 47);
            weighs(c, "weighs 50+[0-7]/[0-2]", 53);
            weighs(c, "weighs 50+1/2", 50);
            weighs(c, "weighs 50+[0-1]/2", 50);
            weighs(c, "weighs 50+0/[0-5]", 50);
            weighs(c, "weighs 50+1000/1000", 51);
            weighs(c, "weighs 50+[0-1000*1000*1000]/[1000*1000*1000]", 49);
            weighs(c, "weighs 9/2*2", 8);
        });
    }

    private static void holding(Edges e) {
        e.edge(13, "It WEIGHS what the last \"weighs\" that HOLDS tells, 1 .. 99 (else the nearest), 1 without", "0, 1, 99, 100", c -> {
            weighs(c, "weighs 0", 1);
            weighs(c, "weighs 0-1", 1);
            weighs(c, "weighs 0-1000*1000*1000", 1);
            weighs(c, "weighs 1", 1);
            weighs(c, "weighs 2", 2);
            weighs(c, "weighs 98", 98);
            weighs(c, "weighs 99", 99);
            weighs(c, "weighs 100", 99);
            weighs(c, "weighs 1000*1000*1000", 99);
            weighs(c, "takes if x=0", 1);
            weighs(c, "weighs 5 if x=0", 1);
            weighs(c, "weighs 1/0", 1);
        });
        e.edge(13, "the last \"weighs\" that HOLDS", "the first, one between, the last does", c -> {
            weighs(c, "weighs 5; weighs 6; weighs 7", 7);
            weighs(c, "weighs 5; weighs 6; weighs 7 if x=0", 6);
            weighs(c, "weighs 5; weighs 6 if y=0; weighs 7/0", 5);
            weighs(c, "weighs 5 if x=0; weighs 6 if y=0; weighs 7 if 1/0=1", 1);
            weighs(c, "weighs 50; weighs 0", 1);
            weighs(c, "weighs 5; takes; shuts", 5);
        });
        e.edge(13, "A CLAUSE HOLDS, if its \"if\" (if it has one) is so, and neither that nor its SUM is BROKEN", "each alone", c -> {
            weighs(c, "weighs 7 if x=1", 7);
            weighs(c, "weighs 7 if x=0", 1);
            weighs(c, "weighs 7 if 1/0=1", 1);
            weighs(c, "weighs 7/0 if x=1", 1);
            weighs(c, "weighs 7/0", 1);
            c.due("takes without if", under("takes").left(0), 0);
            c.due("takes, BROKEN", under("takes if 1/0=1 or x=x").left(0), 125);
            c.due("shuts without if", under("shuts").cell(CELL, 2), 1);
            c.due("shuts, BROKEN", under("shuts if 1/0=1 or x=x").cell(CELL, 2), 0);
            c.due("shuts, not so", under("shuts if x=0").cell(CELL, 2), 0);
        });
        e.edge(13, "A CELL is LEFT, if no HOLE goes through it and \"takes\" does not HOLD", "each, both, neither", c -> {
            CheeseCube box = under("takes if x=0; takes if x=4");
            c.due("neither", box.cell(1, 0), 1);
            c.due("the first takes", box.cell(0, 0), 0);
            c.due("the second takes", box.cell(4, 0), 0);
            box.hole(0, 0, 0, 0, 2, 0);
            c.due("both", box.cell(0, 0), 0);
            c.due("a HOLE", box.cell(1, 0), 0);
            box.force(-1);
            c.due("a HOLE", box.cell(0, 0), 0);
            c.due("neither", box.cell(4, 0), 1);
        });
        e.edge(13, "It is SHUT to ants, if \"shuts\" HOLDS", "a CELL with a HOLE, too; any of them", c -> {
            CheeseCube box = under("shuts if x=0; shuts if holes>0; takes if x=0");
            box.hole(0, 0, 0, 0, 2, 0);
            c.due("taken", box.cell(0, 2), 1);
            c.due("a HOLE", box.cell(1, 2), 1);
            c.due("neither", box.cell(2, 2), 0);
            c.due("SHUT is still LEFT", under("shuts").left(0), 125);
        });
        e.edge(13, "CELLS x, y, z from 0 on (CELL 36 z and 6 y and x)", "each number from -50 to 260 in BOXES of each SIZE", c -> {
            for (int size = 1; size <= 6; size++) {
                CheeseCube box = BoxTest.box(size, 7 - size, 1 + size % 6);
                for (int cell = -50; cell <= 260; cell++) {
                    boolean there = cell >= 0 && cell % 6 < size && cell / 6 % 6 < 7 - size && cell / 36 < 1 + size % 6;
                    c.due("cell(" + cell + ")", box.cell(cell, 0), there ? 1 : -1);
                }
            }
        });
        e.edge(13, "NONE.", "what is no CELL of the BOX, what -1 and 4", c -> {
            CheeseCube box = BoxTest.box(2, 3, 4);
            for (int what = 0; what <= 3; what++) {
                for (int cell : new int[] {-1, 2, 6 * 3, 36 * 4, 216, 36 * 3 + 18, 5, 35, 215}) {
                    Edges.none(c, box, "cell", cell, what);
                }
                c.due("the last is there", box.cell(36 * 3 + 6 * 2 + 1, what), what < 2 ? 1 : 0);
                Edges.noneFar(c, box, 0, "cell", 0, what);
            }
            Edges.none(c, box, "cell", 0, -1);
            Edges.none(c, box, "cell", 0, 4);
            Edges.noneFar(c, box, 1, "cell", 0, 0);
            CheeseCube large = BoxTest.box(6, 6, 6);
            c.due("215", large.cell(215, 0), 1);
            Edges.none(c, large, "cell", 216, 0);
        });
    }

    private static void asking(Edges e) {
        e.edge(13, "ask what stands behind only if it can still matter", "behind what is so, behind what is not", c -> {
            takes(c, "x=x or 1/0=1", 125);
            takes(c, "x<0 or 1/0=1", 0);
            takes(c, "x<0 and 1/0=1", 0);
            takes(c, "not (x<0 and 1/0=1)", 125);
            takes(c, "x=x and 1/0=1", 0);
            takes(c, "not (x=x and 1/0=1)", 0);
            takes(c, "x<0 and 1/0=1 or x=x", 125);
            takes(c, "x=0 or 1/0=1 or x=x", 25);
            takes(c, "x=0 or x=1 or 1/0=1", 50);
            takes(c, "not (x=x or 1/0=1)", 0);
            takes(c, "x<0 and 1/0=1 and 1/0=1 or y=0", 25);
            takes(c, "(x=0 or 1/0=1) and y=0", 5);
            takes(c, "x=x or 1/0=1 and 1/0=1", 125);
        });
        e.edge(13, "a part that was asked and is BROKEN makes all of it BROKEN", "be it ahead or within brackets", c -> {
            takes(c, "1/0=1 or x=x", 0);
            takes(c, "not (1/0=1 and x<0)", 0);
            takes(c, "x=x and (1/0=1 or x=x)", 0);
            takes(c, "not not 1/0=1", 0);
            takes(c, "not 1/0=1", 0);
            takes(c, "1/0<1", 0);
            takes(c, "1<1/0", 0);
            takes(c, "(1/0=1) or (x=x)", 0);
            takes(c, "x=1 or 1/x=1 or y=y", 100);
        });
        e.edge(13, "PLAIN: \"not\" PLAIN | \"(\" TEST \")\"", "not of what is so, of what is not, of not", c -> {
            takes(c, "not x=0", 100);
            takes(c, "not not x=0", 25);
            takes(c, "not (not (x=0))", 25);
            takes(c, "not (not x=0 or y=0)", 20);
            takes(c, "not (x=0) and y=0", 20);
            takes(c, "not (x=0) or y=0", 105);
            takes(c, "not (not (x=0) and not (y=0))", 45);
            takes(c, "not x=x", 0);
            takes(c, "not " + "not ".repeat(95) + "x=0", 25);
        });
        e.edge(13, "SUM (\"<\" | \">\" | \"=\") SUM", "one less, the same, one more", c -> {
            takes(c, "x<2", 50);
            takes(c, "x>2", 50);
            takes(c, "x=2", 25);
            takes(c, "2<x", 50);
            takes(c, "not x<2", 75);
            takes(c, "x-3<0-1", 50);
            takes(c, "x<0", 0);
            takes(c, "x>4", 0);
        });
    }
}
