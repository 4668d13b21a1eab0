import java.util.Random;
import java.util.TreeMap;

/** Promises 4 and 5: random texts, whole and spoiled; each FAULT compared with what Faults finds. */
public final class FaultsTest {
    private static final int MOST_BYTES = 400;

    public static void main(String[] args) {
        int runs = args.length > 1 ? Integer.parseInt(args[1]) : 30000;
        int base = args.length > 2 ? Integer.parseInt(args[2]) : 0;
        TreeMap<String, Integer> seen = new TreeMap<>();
        for (int run = 0; run < runs && Check.wrongSoFar() == 0; run++) {
            Texts texts = new Texts(new Random(base + run));
            boolean castle = run % 2 == 0;
            String text = castle ? texts.castle(8) : texts.rule();
            if (run % 3 > 0) {
                text = texts.spoiled();
            }
            text = text.substring(0, Math.min(MOST_BYTES, text.length()));
            int fault = castle ? Faults.ofCastle(text) : Faults.ofRule(text);
            seen.merge((castle ? "castle " : "rule ") + (fault == 0 ? "fine" : "" + (fault - 1) % 8), 1, Integer::sum);
            compare(text, castle, fault);
        }
        Check.due("kinds of faults seen " + seen, seen.size(), 10);
        Check.finish("FaultsTest");
    }

    private static void compare(String text, boolean castle, int fault) {
        OutwardDoors x = new OutwardDoors();
        Check.tell(x, text);
        int answer = castle ? x.castle() : x.rule();
        String call = (castle ? "castle '" : "rule '") + text + "'";
        if (fault != 0) {
            Check.due(call, answer, -2 - fault);
            Check.due(call + " behind its fault: bytes", x.count(12), 0);
            Check.due(call + " behind its fault: rooms", x.count(0), 0);
            Check.due(call + " behind its fault: rules", x.count(3), 0);
        } else {
            Check.due(call, answer, castle ? new Model(Faults.spaced(text)).people.size() : 0);
        }
    }
}
