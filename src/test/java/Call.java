import java.util.Arrays;
import java.util.List;

/** One call of the face, by its name and numbers, on the class or on the model. */
record Call(String name, int... with) {
    static final List<String> NAMES = List.of("hole", "stop", "of", "terms", "feed", "end", "row", "rinds", "law",
        "fault", "force", "cell", "left", "slice", "vast", "tally", "forget", "judge", "wax", "dipped", "pieces",
        "fewest", "view", "views", "anew", "wire", "screw", "unscrew", "meet", "told", "fits", "ant", "feast",
        "drawn", "image", "back", "count", "status");

    long on(CheeseCube c) {
        int[] a = Arrays.copyOf(with, 6);
        switch (name) {
            case "hole": return c.hole(a[0], a[1], a[2], a[3], a[4], a[5]);
            case "stop": return c.stop(a[0]);
            case "of": return c.of(a[0], a[1]);
            case "terms": return c.terms(a[0], a[1]);
            case "feed": return c.feed(a[0], a[1], a[2], a[3], a[4]);
            case "end": return c.end(a[0]);
            case "row": return c.row();
            case "rinds": return c.rinds();
            case "law": return c.law();
            case "fault": return c.fault();
            case "force": return c.force(a[0]);
            case "cell": return c.cell(a[0], a[1]);
            case "left": return c.left(a[0]);
            case "slice": return c.slice(a[0], a[1], a[2]);
            case "vast": return c.vast(a[0], a[1], a[2]);
            case "tally": return c.tally(a[0], a[1], a[2], a[3]);
            case "forget": return c.forget();
            case "judge": return c.judge();
            case "wax": return c.wax(a[0], a[1]);
            case "dipped": return c.dipped(a[0], a[1], a[2], a[3], a[4]);
            case "pieces": return c.pieces(a[0], a[1]);
            case "fewest": return c.fewest(a[0], a[1], a[2]);
            case "view": return c.view(a[0], a[1], a[2], a[3]);
            case "views": return c.views(a[0]);
            case "anew": return c.anew(a[0]);
            case "wire": return c.wire(a[0]);
            case "screw": return c.screw(a[0], a[1], a[2], a[3], a[4]);
            case "unscrew": return c.unscrew();
            case "meet": return c.meet(a[0]);
            case "told": return c.told(a[0], a[1], a[2]);
            case "fits": return c.fits(a[0]);
            case "ant": return c.ant(a[0], a[1], a[2]);
            case "feast": return c.feast(a[0], a[1]);
            case "drawn": return c.drawn(a[0]);
            case "image": return c.image(a[0]);
            case "back": return c.back(a[0]);
            case "count": return c.count(a[0]);
            case "status": return c.status();
            default: throw new IllegalStateException(name);
        }
    }

    long on(Model c) {
        int[] a = Arrays.copyOf(with, 6);
        switch (name) {
            case "hole": return c.hole(a[0], a[1], a[2], a[3], a[4], a[5]);
            case "stop": return c.stop(a[0]);
            case "of": return c.of(a[0], a[1]);
            case "terms": return c.terms(a[0], a[1]);
            case "feed": return c.feed(a[0], a[1], a[2], a[3], a[4]);
            case "end": return c.end(a[0]);
            case "row": return c.row();
            case "rinds": return c.rinds();
            case "law": return c.law();
            case "fault": return c.fault();
            case "force": return c.force(a[0]);
            case "cell": return c.cell(a[0], a[1]);
            case "left": return c.left(a[0]);
            case "slice": return c.slice(a[0], a[1], a[2]);
            case "vast": return c.vast(a[0], a[1], a[2]);
            case "tally": return c.tally(a[0], a[1], a[2], a[3]);
            case "forget": return c.forget();
            case "judge": return c.judge();
            case "wax": return c.wax(a[0], a[1]);
            case "dipped": return c.dipped(a[0], a[1], a[2], a[3], a[4]);
            case "pieces": return c.pieces(a[0], a[1]);
            case "fewest": return c.fewest(a[0], a[1], a[2]);
            case "view": return c.view(a[0], a[1], a[2], a[3]);
            case "views": return c.views(a[0]);
            case "anew": return c.anew(a[0]);
            case "wire": return c.wire(a[0]);
            case "screw": return c.screw(a[0], a[1], a[2], a[3], a[4]);
            case "unscrew": return c.unscrew();
            case "meet": return c.meet(a[0]);
            case "told": return c.told(a[0], a[1], a[2]);
            case "fits": return c.fits(a[0]);
            case "ant": return c.ant(a[0], a[1], a[2]);
            case "feast": return c.feast(a[0], a[1]);
            case "drawn": return c.drawn(a[0]);
            case "image": return c.image(a[0]);
            case "back": return c.back(a[0]);
            case "count": return c.count(a[0]);
            case "status": return c.status();
            default: throw new IllegalStateException(name);
        }
    }

    @Override
    public String toString() {
        String numbers = Arrays.toString(with);
        return name + "(" + numbers.substring(1, numbers.length() - 1) + ")";
    }
}
