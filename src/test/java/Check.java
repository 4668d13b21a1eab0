import java.util.function.ToIntFunction;

/** What all tests of the project share: counting wrong answers, and telling texts to an object. */
final class Check {
    private static int wrong = 0;
    private static String within = "";

    private Check() {
    }

    static void due(String call, long got, long want) {
        if (got != want) {
            wrong++;
            System.out.println(within + call + " answered " + got + ", due is " + want);
        }
    }

    static void due(String call, boolean got, boolean want) {
        due(call, got ? 1 : 0, want ? 1 : 0);
    }

    static void due(String call, String got, String want) {
        if (!got.equals(want)) {
            due(call + " is" + got + ", due is" + want + ": it", 1, 0);
        }
    }

    /** What stands ahead of each wrong answer that is told from here on. */
    static void within(String words) {
        within = words;
    }

    static int wrongSoFar() {
        return wrong;
    }

    static void finish(String name) {
        System.out.println(name + ": " + (wrong == 0 ? "all answers are as due" : wrong + " answers are not as due"));
        if (wrong != 0) {
            System.exit(1);
        }
    }

    static int[] fiveNumbers(String text, int from) {
        int[] five = new int[5];
        for (int k = 0; k < 20; k++) {
            int sign = from + k < text.length() ? text.charAt(from + k) : 0;
            five[k / 4] = five[k / 4] << 8 | sign;
        }
        return five;
    }

    /** Puts a text alone onto the tape. */
    static void tell(OutwardDoors x, String text) {
        x.end(0);
        for (int at = 0; at < text.length(); at += 20) {
            int[] f = fiveNumbers(text, at);
            x.feed(f[0], f[1], f[2], f[3], f[4]);
        }
        x.end(text.length());
    }

    static int castle(OutwardDoors x, String text) {
        tell(x, text);
        return x.castle();
    }

    static int rule(OutwardDoors x, String text) {
        tell(x, text);
        return x.rule();
    }

    static OutwardDoors with(String castle, String... rules) {
        OutwardDoors x = new OutwardDoors();
        if (castle(x, castle) < 0) {
            due("castle " + castle, -1, 0);
        }
        for (String rule : rules) {
            if (rule(x, rule) < 0) {
                due("rule " + rule, -1, 0);
            }
        }
        return x;
    }

    /** All that can be seen of an object, but for what its tape's bytes are. */
    static String allOf(OutwardDoors x) {
        StringBuilder all = new StringBuilder();
        for (int what = 0; what <= 12; what++) {
            all.append(" count").append(what).append('=').append(x.count(what));
        }
        for (int p = 0; p < x.count(2); p++) {
            for (int what = 0; what <= 7; what++) {
                all.append(" person").append(p).append('.').append(what).append('=').append(x.person(p, what));
            }
        }
        for (int r = 0; r < x.count(0); r++) {
            all.append(" room").append(r).append('=').append(x.room(r, 0)).append(' ').append(x.room(r, 1));
        }
        for (int d = 0; d < x.count(1); d++) {
            all.append(" door").append(d).append('=').append(x.door(d, 0)).append(' ').append(x.door(d, 1));
        }
        return all.append(" ruled=").append(x.ruled(0)).append(' ').append(x.ruled(1)).toString();
    }

    /** A call that answers so and changes nothing. */
    static void nothingHappens(OutwardDoors x, String call, ToIntFunction<OutwardDoors> made, int want) {
        String before = allOf(x);
        due(call, made.applyAsInt(x), want);
        due("all behind " + call, allOf(x), before);
    }

    /** What castle() and rule() answer of a fault. */
    static int fault(int place, int kind) {
        return -2 - (1 + 8 * place + kind);
    }
}
