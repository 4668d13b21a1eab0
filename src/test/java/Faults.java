import java.util.ArrayList;
import java.util.Arrays;
import java.util.List;
import java.util.regex.Matcher;
import java.util.regex.Pattern;

/**
 * Where a text is first at fault: found token by token by what may follow the last one,
 * without reading the text as the class does, so that both would hardly err alike.
 */
final class Faults {
    private static final Pattern TOKEN = Pattern.compile("[0-9]+|[a-z]+|<=|>=|[^ ]", Pattern.DOTALL);
    private static final List<String> VALUES = Arrays.asList("person", "room", "far", "goal", "left", "pay",
        "moment", "night", "here", "in", "out", "asked");
    private static final List<String> SIGNS = Arrays.asList("<", "<=", "=", ">=", ">");
    private static final List<String> OPERATIONS = Arrays.asList("+", "-", "*", "/", "%");
    private static final List<String> CLAUSES = Arrays.asList("castle", "far", "door", "window", "night", "person");
    private static final String END = "";

    private final List<String> tokens = new ArrayList<>();
    private final List<Integer> places = new ArrayList<>();
    private int at;

    private Faults(String text) {
        Matcher matcher = TOKEN.matcher(text);
        while (matcher.find()) {
            tokens.add(matcher.group());
            places.add(matcher.start());
        }
        tokens.add(END);
        places.add(text.length());
    }

    /** The text's tokens between single blanks, as Model reads them. */
    static String spaced(String text) {
        return String.join(" ", new Faults(text).tokens).trim();
    }

    private int fault(int kind) {
        return 1 + 8 * places.get(at) + kind;
    }

    private static boolean isNumber(String token) {
        return !token.isEmpty() && Character.isDigit(token.charAt(0));
    }

    /** 0 without a fault. */
    static int ofCastle(String text) {
        Faults f = new Faults(text);
        boolean[][] joined = new boolean[10][10];
        int[] told = new int[CLAUSES.size()];
        int rooms = 0;
        for (int clause = 1;; clause++) {
            int kind = CLAUSES.indexOf(f.tokens.get(f.at));
            if (kind < 0) {
                return f.fault(0);
            }
            told[kind]++;
            boolean tooMany = clause > 40 || told[0] > 1 || told[4] > 1 || told[2] + told[3] > 14 || told[5] > 4;
            if (tooMany || told[0] == 0) {
                return f.fault(4);
            }
            int[] numbers = new int[kind == 0 ? 1 : kind == 5 ? 3 : 2];
            for (int k = 0; k < numbers.length; k++) {
                f.at++;
                String token = f.tokens.get(f.at);
                if (!isNumber(token)) {
                    return f.fault(0);
                }
                if (token.length() > 5 || !isAsTold(kind, k, Integer.parseInt(token), numbers, rooms, joined)) {
                    return f.fault(1);
                }
                numbers[k] = Integer.parseInt(token);
            }
            rooms = kind == 0 ? numbers[0] : rooms;
            if (kind == 2 || kind == 3) {
                joined[numbers[0]][numbers[1]] = true;
                joined[numbers[1]][numbers[0]] = true;
            }
            f.at++;
            if (f.tokens.get(f.at).equals(END)) {
                return 0;
            }
            if (!f.tokens.get(f.at).equals(";")) {
                return f.fault(0);
            }
            f.at++;
        }
    }

    private static boolean isAsTold(int kind, int k, int number, int[] before, int rooms, boolean[][] joined) {
        switch (kind) {
            case 0: return number >= 2 && number <= 8;
            case 1: return number <= (k == 0 ? rooms - 1 : 9);
            case 4: return number <= 23 && (k == 0 || number >= before[0]);
            case 5: return number <= (k == 2 ? 50 : rooms - 1);
            default: return number < rooms && (k == 0 || number != before[0] && !joined[before[0]][number]);
        }
    }

    /** 0 without a fault. */
    static int ofRule(String text) {
        return new Faults(text).new RuleWalk().firstFault();
    }

    /** What may come next in a rule. */
    private enum Next { CLAUSE, VALUE, FACT, BEHIND_VALUE, BEHIND_FACT }

    /** Goes along a rule's tokens; open holds a sign for each bracket and "not" that is open. */
    private final class RuleWalk {
        private static final int FINE = 0;
        private final StringBuilder open = new StringBuilder();
        private Next next = Next.CLAUSE;
        private int clauses;
        private int parts;
        private boolean tested;
        private boolean signed;

        int firstFault() {
            for (at = 0; at < tokens.size(); at++) {
                int fault = take(tokens.get(at));
                if (fault != FINE) {
                    return fault;
                }
            }
            return FINE;
        }

        private int take(String token) {
            switch (next) {
                case CLAUSE: return takeGo(token);
                case VALUE: return takeValue(token);
                case FACT: return token.equals("[") || token.equals("not") ? takeOpener(token) : takeValue(token);
                case BEHIND_VALUE: return takeBehindValue(token);
                default: return takeBehindFact(token);
            }
        }

        private int takeGo(String token) {
            if (!token.equals("go")) {
                return fault(0);
            }
            clauses++;
            tested = false;
            next = Next.VALUE;
            return clauses > 12 ? fault(4) : FINE;
        }

        private int takeOpener(String token) {
            open.append(token.charAt(0));
            return open.length() > 10 ? fault(2) : FINE;
        }

        private int takeValue(String token) {
            if (!isNumber(token) && !VALUES.contains(token)) {
                return fault(0);
            }
            parts++;
            next = Next.BEHIND_VALUE;
            return isNumber(token) && token.length() > 5 ? fault(1) : parts > 60 ? fault(3) : FINE;
        }

        private int takeBehindValue(String token) {
            if (OPERATIONS.contains(token)) {
                next = Next.VALUE;
            } else if (tested && !signed) {
                signed = true;
                parts++;
                next = Next.VALUE;
                return !SIGNS.contains(token) ? fault(0) : parts > 60 ? fault(3) : FINE;
            } else if (!tested && token.equals("if")) {
                tested = true;
                signed = false;
                next = Next.FACT;
            } else {
                closeNots();
                return takeBehindFact(token);
            }
            return FINE;
        }

        private int takeBehindFact(String token) {
            next = Next.BEHIND_FACT;
            if (tested && (token.equals("and") || token.equals("or"))) {
                signed = false;
                next = Next.FACT;
            } else if (token.equals("]") && open.length() > 0) {
                open.setLength(open.length() - 1);
                closeNots();
            } else if (token.equals(";") && open.length() == 0) {
                next = Next.CLAUSE;
            } else if (!token.equals(END) || open.length() > 0) {
                return fault(0);
            }
            return FINE;
        }

        /** A fact that ends ends every "not" right ahead of it. */
        private void closeNots() {
            while (open.length() > 0 && open.charAt(open.length() - 1) == 'n') {
                open.setLength(open.length() - 1);
            }
        }
    }
}
