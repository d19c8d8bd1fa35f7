import java.io.IOException;
import java.nio.file.Files;
import java.nio.file.Path;
import java.util.Set;
import java.util.TreeSet;

/**
 * Tests of the boundary cases that the document names, one for each sentence (or part of one) that names some.
 * A test's name has the promise's number and the document's own words; they are looked up in it, so that
 * a test can't go on under words that the document no longer has.
 */
final class Edges {
    private static final Path DOCUMENT = Path.of("../shared/DOC.md");
    private static final int PROMISES = 39;
    private static final int[] ANY = {Integer.MIN_VALUE, -1000000, -217, -3, -2, 1001, 1000000, Integer.MAX_VALUE};

    private final String document;
    private final Set<Integer> promises = new TreeSet<>();

    private Edges(String document) {
        this.document = document;
    }

    static void runAll() throws IOException {
        Edges edges = new Edges(Files.readString(DOCUMENT).replaceAll("\\s+", " "));
        EdgesOfHoles.all(edges);
        EdgesOfTape.all(edges);
        EdgesOfLaws.all(edges);
        EdgesOfBox.all(edges);
        EdgesOfVast.all(edges);
        EdgesOfSearch.all(edges);
        EdgesOfViews.all(edges);
        EdgesOfPicks.all(edges);
        EdgesOfKeeping.all(edges);
        AllTests.test("promises 1 to 39: each has tests of its boundary cases", edges::eachHasSome);
    }

    /** A test of a promise's boundary cases, under words of its own paragraph or of the terms. */
    void edge(int promise, String words, String cases, AllTests.Test test) {
        promises.add(promise);
        AllTests.test("promise " + promise + ", \"" + words + "\": " + cases, c -> {
            c.holds("the document's words: " + words, isSaid(promise, words));
            test.run(c);
        });
    }

    private boolean isSaid(int promise, String words) {
        int from = document.indexOf("## Promise " + promise + ":");
        int to = document.indexOf("## ", from + 3);
        int terms = document.indexOf("## Promise 1:");
        return from > 0 && (document.substring(0, terms).contains(words)
                || document.substring(from, to < 0 ? document.length() : to).contains(words));
    }

    private void eachHasSome(Checks c) {
        for (int promise = 1; promise <= PROMISES; promise++) {
            c.holds("promise " + promise, promises.contains(promise));
        }
    }

    /** A call is REFUSED: it answers so, status() and count() tell it, and nothing else that they tell changes. */
    static void refused(Checks c, CheeseCube box, int by, String name, int... with) {
        Call call = new Call(name, with);
        long[] before = tellings(box);
        c.due(call.toString(), call.on(box), by);
        c.due("status() behind " + call, box.status(), by);
        long[] now = tellings(box);
        int place = by == -5 ? 11 : by == -6 ? 12 : 7 - by;
        for (int what = 0; what < now.length; what++) {
            boolean emptied = what == 7 && name.equals("law");
            long due = emptied ? 0 : before[what] + (what == place ? 1 : 0);
            c.due("telling " + what + " behind " + call, now[what], due);
        }
    }

    /** A call answers NONE, is not REFUSED, and changes nothing that count() and status() tell. */
    static void none(Checks c, CheeseCube box, String name, int... with) {
        Call call = new Call(name, with);
        long[] before = tellings(box);
        int status = box.status();
        c.due(call.toString(), call.on(box), CheeseCube.NONE);
        c.due("status() behind " + call, box.status(), status);
        long[] now = tellings(box);
        for (int what = 0; what < now.length; what++) {
            c.due("telling " + what + " behind " + call, now[what], before[what]);
        }
    }

    /** A number of a call is each that is far beyond any bound: REFUSED by -1, by -2. */
    static void refusedFar(Checks c, CheeseCube box, int by, int place, String name, int... with) {
        for (int far : ANY) {
            int[] other = with.clone();
            other[place] = far;
            refused(c, box, by, name, other);
        }
    }

    /** A number of a call is each that is far beyond any bound: NONE. */
    static void noneFar(Checks c, CheeseCube box, int place, String name, int... with) {
        for (int far : ANY) {
            int[] other = with.clone();
            other[place] = far;
            none(c, box, name, other);
        }
    }

    private static long[] tellings(CheeseCube box) {
        long[] found = new long[17];
        for (int what = 0; what <= 14; what++) {
            found[what] = box.count(what);
        }
        found[15] = box.left(0);
        found[16] = box.left(1);
        return found;
    }
}
