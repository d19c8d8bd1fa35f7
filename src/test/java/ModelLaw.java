import java.util.ArrayList;
import java.util.List;

/** A TEXT as a tree of clauses; its fault is where the first token stands that can't go on, or -1. */
final class ModelLaw {
    static final ModelLaw EMPTY = new ModelLaw();

    final int fault;
    private final List<Clause> clauses = new ArrayList<>();
    private List<Token> tokens = new ArrayList<>();
    private int next;
    private int parts;
    private int open;

    private record Token(String text, int place) {
    }

    private record Clause(String kind, Node sum, Node test) {
    }

    /** The words are x, y, z, holes, rind, day; an answer is null, if it is broken. */
    private interface Node {
        Long ask(int[] words);
    }

    private static final class Fault extends Exception {
        private static final long serialVersionUID = 1;
    }

    private ModelLaw() {
        fault = -1;
    }

    ModelLaw(String text) {
        cut(text);
        int found = -1;
        try {
            readClauses();
        } catch (Fault e) {
            found = now().place;
        }
        fault = found;
    }

    boolean takes(int[] words) {
        return clauses.stream().anyMatch(c -> c.kind.equals("takes") && holds(c, words));
    }

    boolean shuts(int[] words) {
        return clauses.stream().anyMatch(c -> c.kind.equals("shuts") && holds(c, words));
    }

    int weighs(int[] words) {
        long weight = 1;
        for (Clause clause : clauses) {
            if (clause.kind.equals("weighs") && holds(clause, words)) {
                weight = clause.sum.ask(words);
            }
        }
        return (int) Math.max(1, Math.min(99, weight));
    }

    private static boolean holds(Clause clause, int[] words) {
        if (clause.sum != null && clause.sum.ask(words) == null) {
            return false;
        }
        if (clause.test == null) {
            return true;
        }
        Long so = clause.test.ask(words);
        return so != null && so == 1;
    }

    // ---- tokens

    private void cut(String text) {
        int at = 0;
        while (at < text.length()) {
            int from = at;
            char c = text.charAt(at);
            if (c == ' ') {
                at++;
                continue;
            }
            String kind = c >= 'a' && c <= 'z' ? "[a-z]" : c >= '0' && c <= '9' ? "[0-9]" : null;
            at++;
            while (kind != null && at < text.length() && text.substring(at, at + 1).matches(kind)) {
                at++;
            }
            tokens.add(new Token(text.substring(from, at), from));
        }
        tokens.add(new Token("", text.length()));
    }

    private Token now() {
        return tokens.get(next);
    }

    private boolean is(String text) {
        return now().text.equals(text);
    }

    private boolean pass(String text) {
        if (is(text)) {
            next++;
            return true;
        }
        return false;
    }

    private void need(String text) throws Fault {
        if (!pass(text)) {
            throw new Fault();
        }
    }

    // ---- the grammar

    private void readClauses() throws Fault {
        do {
            if (clauses.size() == 12) {
                throw new Fault();
            }
            readClause();
        } while (pass(";"));
        if (!is("")) {
            throw new Fault();
        }
    }

    private void readClause() throws Fault {
        String kind = now().text;
        Node sum = null;
        if (pass("weighs")) {
            sum = readSum();
        } else if (!pass("takes")) {
            need("shuts");
        }
        clauses.add(new Clause(kind, sum, pass("if") ? readTest() : null));
    }

    private Node readTest() throws Fault {
        Node left = readBoth();
        while (pass("or")) {
            left = either(left, readBoth(), 1);
        }
        return left;
    }

    private Node readBoth() throws Fault {
        Node left = readPlain();
        while (pass("and")) {
            left = either(left, readPlain(), 0);
        }
        return left;
    }

    /** The second is asked only if the first is not the value that decides. */
    private static Node either(Node first, Node second, long deciding) {
        return words -> {
            Long one = first.ask(words);
            return one == null || one == deciding ? one : second.ask(words);
        };
    }

    private Node readPlain() throws Fault {
        if (pass("not")) {
            Node inner = readPlain();
            return words -> {
                Long one = inner.ask(words);
                return one == null ? null : Long.valueOf(1 - one);
            };
        }
        if (is("(")) {
            openBracket();
            Node inner = readTest();
            closeBracket(")");
            return inner;
        }
        Node left = readSum();
        String sign = now().text;
        if (!sign.equals("<") && !sign.equals(">") && !sign.equals("=")) {
            throw new Fault();
        }
        next++;
        Node right = readSum();
        return words -> {
            Long a = left.ask(words);
            Long b = right.ask(words);
            if (a == null || b == null) {
                return null;
            }
            int order = Long.compare(a, b);
            return sign.equals("<") ? (order < 0 ? 1L : 0L) : sign.equals(">") ? (order > 0 ? 1L : 0L)
                    : order == 0 ? 1L : 0L;
        };
    }

    private void openBracket() throws Fault {
        if (open == 8) {
            throw new Fault();
        }
        open++;
        next++;
    }

    private void closeBracket(String sign) throws Fault {
        need(sign);
        open--;
    }

    private Node readSum() throws Fault {
        Node left = readTerm();
        while (is("+") || is("-")) {
            String sign = now().text;
            next++;
            left = joined(left, sign, readTerm());
        }
        return left;
    }

    private Node readTerm() throws Fault {
        Node left = readPart();
        while (is("*") || is("/")) {
            String sign = now().text;
            next++;
            left = joined(left, sign, readPart());
        }
        return left;
    }

    private static Node joined(Node left, String sign, Node right) {
        return words -> {
            Long a = left.ask(words);
            Long b = right.ask(words);
            if (a == null || b == null || sign.equals("/") && b == 0) {
                return null;
            }
            long value = sign.equals("+") ? a + b : sign.equals("-") ? a - b : sign.equals("*") ? a * b : a / b;
            return Math.abs(value) > 1_000_000_000L ? null : Long.valueOf(value);
        };
    }

    private Node readPart() throws Fault {
        if (is("[")) {
            openBracket();
            Node inner = readSum();
            closeBracket("]");
            return inner;
        }
        int word = List.of("x", "y", "z", "holes", "rind", "day").indexOf(now().text);
        boolean number = now().text.matches("[0-9]+");
        if (word < 0 && !number || parts == 50
                || number && new java.math.BigInteger(now().text).compareTo(java.math.BigInteger.valueOf(1000)) > 0) {
            throw new Fault();
        }
        parts++;
        long value = number ? Long.parseLong(now().text) : 0;
        next++;
        return number ? words -> value : words -> (long) words[word];
    }
}
