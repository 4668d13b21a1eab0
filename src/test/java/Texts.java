import java.util.ArrayList;
import java.util.Arrays;
import java.util.List;
import java.util.Random;

/** Random texts of castles and rules: many near the document's limits, many spoiled in a place or two. */
final class Texts {
    private static final String[] WORDS = {"person", "room", "far", "goal", "left", "pay", "moment", "night",
        "here", "in", "out", "asked"};
    private static final String[] SIGNS = {"<", "<=", "=", ">=", ">"};
    private static final String[] OPERATIONS = {"+", "-", "*", "/", "%"};
    private static final String[] STRAYS = {";", "castle", "go", "if", "and", "or", "not", "[", "]", "door", "window",
        "night", "far", "person", "here", "0", "1", "7", "00001", "99999", "000001", "123456", "<", "=", ">=", "+",
        "%", "gone", "Door", "\u00ff", "\u0000", "\t", ",", "(", "<=", "x"};

    private static final String[] CLAUSES = {"; castle 3", "; night 3 4", "; person 0 0 0", "; door 0 1",
        "; window 1 0", "; far 1 1", "; go 1", "; go 1 if 1 = 1", "; doors 0 1"};

    private final Random random;
    private List<String> tokens = new ArrayList<>();
    private int parts;
    private boolean dense;

    Texts(Random random) {
        this.random = random;
    }

    /** A castle of at most so many rooms; nothing is wrong in it. */
    String castle(int mostRooms) {
        tokens = new ArrayList<>();
        int rooms = 2 + random.nextInt(mostRooms - 1);
        put("castle", rooms);
        int clauses = random.nextInt(4) == 0 ? 36 + random.nextInt(4) : 3 + random.nextInt(16);
        int doors = 0;
        int people = 0;
        boolean night = false;
        boolean[] joined = new boolean[64];
        for (int k = 0; k < clauses; k++) {
            int kind = random.nextInt(8);
            int a = random.nextInt(rooms);
            int b = random.nextInt(rooms);
            if (kind < 4 && doors < 14 && a != b && !joined[a * 8 + b]) {
                joined[a * 8 + b] = true;
                joined[b * 8 + a] = true;
                doors++;
                clause(random.nextInt(4) == 0 ? "window" : "door", a, b);
            } else if (kind == 4 && !night) {
                night = true;
                int first = random.nextInt(24);
                clause("night", first, first + random.nextInt(24 - first));
            } else if (kind > 4 && kind < 7 && people < 4) {
                people++;
                clause("person", a, b, random.nextInt(51));
            } else {
                clause("far", a, random.nextInt(10));
            }
        }
        return joined();
    }

    private void clause(String word, int... numbers) {
        put(";");
        put(word, numbers);
    }

    private void put(String word, int... numbers) {
        tokens.add(word);
        for (int number : numbers) {
            String digits = String.valueOf(number);
            tokens.add(random.nextInt(20) == 0 && digits.length() < 5 ? "00000".substring(digits.length()) + digits
                : digits);
        }
    }

    /** A rule in which nothing is wrong but, now and then, one clause, value, fact or opener too many. */
    String rule() {
        tokens = new ArrayList<>();
        dense = random.nextInt(4) == 0;
        parts = dense ? 56 + random.nextInt(6) : 6 + random.nextInt(16);
        boolean many = !dense && random.nextInt(6) == 0;
        int clauses = many ? 11 + random.nextInt(3) : 1 + random.nextInt(3);
        for (int k = 0; k < clauses; k++) {
            if (k > 0) {
                tokens.add(";");
            }
            tokens.add("go");
            sum(many ? 1 : 3);
            if (dense || random.nextInt(4) > 0) {
                tokens.add("if");
                test(0);
            }
        }
        return joined();
    }

    private void sum(int longest) {
        value();
        for (int k = random.nextInt(longest); k > 0 && parts > 0; k--) {
            tokens.add(one(OPERATIONS));
            value();
        }
    }

    private void value() {
        parts--;
        boolean number = dense || random.nextInt(3) == 0;
        tokens.add(number ? String.valueOf(random.nextInt(random.nextInt(19) == 0 ? 100000 : 4)) : one(WORDS));
    }

    private void test(int depth) {
        fact(depth);
        for (int k = dense ? random.nextInt(30) : random.nextInt(2); k > 0 && parts > 0; k--) {
            tokens.add(random.nextBoolean() ? "or" : "and");
            fact(depth);
        }
    }

    private void fact(int depth) {
        // A long row of openers now and then, so that some are just too deep.
        int openers = random.nextInt(3) == 0 && depth < 10 ? random.nextInt(random.nextInt(5) == 0 ? 12 : 3) : 0;
        int brackets = 0;
        for (int k = 0; k < openers; k++) {
            boolean bracket = random.nextBoolean();
            tokens.add(bracket ? "[" : "not");
            brackets += bracket ? 1 : 0;
        }
        if (brackets > 0 && tokens.get(tokens.size() - 1).equals("[") && depth + openers < 8) {
            test(depth + openers);
        } else {
            sum(2);
            parts--;
            tokens.add(one(SIGNS));
            sum(2);
        }
        for (int k = 0; k < brackets; k++) {
            tokens.add("]");
        }
    }

    private String one(String[] row) {
        return row[random.nextInt(row.length)];
    }

    /** The last text again, with one or two tokens or bytes more, fewer or others. */
    String spoiled() {
        for (int k = 1 + random.nextInt(2); k > 0; k--) {
            int at = random.nextInt(tokens.size() + 1);
            int kind = random.nextInt(8);
            if (at < tokens.size() && Character.isDigit(tokens.get(at).charAt(0))) {
                tokens.set(at, String.valueOf(random.nextInt(random.nextBoolean() ? 60 : 9)));
            } else if (at < tokens.size() && tokens.get(at).equals(";") && kind > 4) {
                tokens.addAll(at, Arrays.asList(one(CLAUSES).split(" ")));
            } else if (kind == 0 || at == tokens.size()) {
                tokens.add(at, one(STRAYS));
            } else if (kind == 1) {
                tokens.set(at, one(STRAYS));
            } else if (kind == 2) {
                tokens.remove(at);
            } else if (kind > 3) {
                tokens.add(at, tokens.get(random.nextInt(tokens.size())));
            } else {
                tokens = new ArrayList<>(tokens.subList(0, at));
            }
        }
        return joined();
    }

    /** Between two words or two numbers there must be a blank, else as one likes. */
    private String joined() {
        StringBuilder text = new StringBuilder();
        boolean wide = random.nextInt(3) == 0;
        for (String token : tokens) {
            int last = text.length() == 0 ? ' ' : text.charAt(text.length() - 1);
            boolean must = kindOf(last) == kindOf(token.charAt(0)) && kindOf(last) != 0;
            int blanks = Math.max(must ? 1 : 0, random.nextInt(wide ? 3 : 2));
            for (int k = 0; k < blanks; k++) {
                text.append(' ');
            }
            text.append(token);
        }
        for (int k = random.nextInt(6) - 4; k > 0; k--) {
            text.append(' ');
        }
        return text.toString();
    }

    /** 1 of letters, 2 of digits, 3 of signs that could become one. */
    private static int kindOf(int sign) {
        if (sign >= 'a' && sign <= 'z') {
            return 1;
        }
        return sign >= '0' && sign <= '9' ? 2 : "<>=".indexOf(sign) >= 0 ? 3 : 0;
    }
}
