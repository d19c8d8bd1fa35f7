import java.util.Random;

/** Texts by the grammar of LAWS, and texts with something wrong in them. */
final class Texts {
    private static final String[] WORDS = {"x", "y", "z", "holes", "rind", "day"};
    private static final String[] SPARE = {"weighs", "takes", "shuts", "if", "or", "and", "not", "(", ")", "[", "]",
            "<", ">", "=", "+", "-", "*", "/", ";", "1", "1000", "1001", "0", "00007", "x", "holes", "rinds", "X", "!",
            "\t", "\u00e9", "99999999999999999999", " "};
    private final Random random;
    private final StringBuilder text = new StringBuilder();

    Texts(Random random) {
        this.random = random;
    }

    String next() {
        text.setLength(0);
        int clauses = random.nextInt(8) == 0 ? 10 + random.nextInt(4) : 1 + random.nextInt(4);
        for (int i = 0; i < clauses; i++) {
            if (i > 0) {
                add(";");
            }
            addClause(clauses > 4 ? 0 : 3);
        }
        String good = text.toString();
        return random.nextInt(4) == 0 ? spoiled(good) : good;
    }

    private String spoiled(String good) {
        int at = random.nextInt(good.length() + 1);
        String piece = SPARE[random.nextInt(SPARE.length)];
        switch (random.nextInt(4)) {
            case 0: return good.substring(0, at);
            case 1: return good.substring(0, at) + piece + good.substring(at);
            case 2: return good.substring(0, at) + piece + good.substring(Math.min(good.length(), at + 1));
            default: return good.substring(0, at) + " " + piece + " " + good.substring(at);
        }
    }

    private void add(String token) {
        boolean needed = text.length() > 0 && token.matches("[a-z0-9]+")
                && Character.isLetterOrDigit(text.charAt(text.length() - 1))
                && Character.isDigit(text.charAt(text.length() - 1)) == Character.isDigit(token.charAt(0));
        int blanks = random.nextInt(6) == 0 ? 1 + random.nextInt(2) : 0;
        text.append(" ".repeat(needed ? Math.max(1, blanks) : blanks)).append(token);
    }

    private void addClause(int depth) {
        String kind = new String[] {"weighs", "takes", "shuts"}[random.nextInt(3)];
        add(kind);
        if (kind.equals("weighs")) {
            addSum(depth);
        }
        if (!kind.equals("weighs") ? random.nextInt(20) > 0 : random.nextInt(2) == 0) {
            add("if");
            addTest(depth);
        }
    }

    private void addTest(int depth) {
        int many = random.nextInt(4) == 0 ? 2 : 1;
        for (int i = 0; i < many; i++) {
            if (i > 0) {
                add("or");
            }
            addBoth(depth);
        }
    }

    private void addBoth(int depth) {
        int many = random.nextInt(4) == 0 ? 2 + random.nextInt(2) : 1;
        for (int i = 0; i < many; i++) {
            if (i > 0) {
                add("and");
            }
            addPlain(depth);
        }
    }

    private void addPlain(int depth) {
        for (int more = random.nextInt(5); more == 0; more = random.nextInt(3)) {
            add("not");
        }
        if (depth > 0 && random.nextInt(4) == 0) {
            add("(");
            addTest(depth - 1);
            add(")");
            return;
        }
        addSum(depth);
        add(new String[] {"<", ">", "="}[random.nextInt(3)]);
        addSum(depth);
    }

    private void addSum(int depth) {
        addTerm(depth);
        while (random.nextInt(4) == 0) {
            add(random.nextInt(2) == 0 ? "+" : "-");
            addTerm(depth);
        }
    }

    private void addTerm(int depth) {
        addPart(depth);
        while (random.nextInt(4) == 0) {
            add(random.nextInt(2) == 0 ? "*" : "/");
            addPart(depth);
        }
    }

    private void addPart(int depth) {
        if (depth > 0 && random.nextInt(6) == 0) {
            add("[");
            addSum(depth - 1);
            add("]");
        } else if (random.nextInt(2) == 0) {
            add(WORDS[random.nextInt(WORDS.length)]);
        } else {
            int[] numbers = {0, 1, 2, 3, 4, 5, 10, 1000, random.nextInt(1001)};
            add(Integer.toString(numbers[random.nextInt(numbers.length)]));
        }
    }
}
