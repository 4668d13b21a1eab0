import java.lang.reflect.Method;
import java.util.ArrayList;
import java.util.List;
import java.util.Random;
import java.util.TreeMap;

/** All promises: lives of 512 random calls, with any of the calls and fair or wrong arguments, each compared. */
public final class LifeTest {
    private static final int CALLS = 512;
    private static final String[] KINDS = {"text", "text", "moment", "moment", "moment", "aim", "send", "send", "undo",
        "force", "person", "person", "room", "door", "ahead", "comes", "fewest", "passing", "caught", "page", "price",
        "turned", "swap", "note", "ruled", "look", "seed", "days", "count", "count", "image", "back"};
    private static final int[] EDGES = {-2147483648, -3, -2, -1, 0, 1, 2, 3, 4, 5, 7, 8, 9, 10, 13, 14, 15, 16, 60, 61,
        100, 101, 2147483647};

    private final Random random;
    private final Texts texts;
    private final OutwardDoors x = new OutwardDoors();
    private final Life life = new Life();
    private final List<String> said = new ArrayList<>();
    private final TreeMap<String, Method> methods;

    private LifeTest(int seed, TreeMap<String, Method> methods) {
        random = new Random(seed);
        texts = new Texts(random);
        this.methods = methods;
    }

    public static void main(String[] args) throws ReflectiveOperationException {
        int runs = args.length > 1 ? Integer.parseInt(args[1]) : 150;
        int base = args.length > 2 ? Integer.parseInt(args[2]) : 0;
        TreeMap<String, Method> methods = new TreeMap<>();
        for (Method method : OutwardDoors.class.getMethods()) {
            methods.put(method.getName(), method);
        }
        for (int run = 0; run < runs && Check.wrongSoFar() == 0; run++) {
            new LifeTest(base + run, methods).live();
        }
        Check.finish("LifeTest");
    }

    private void live() throws ReflectiveOperationException {
        while (said.size() < CALLS && Check.wrongSoFar() == 0) {
            String kind = KINDS[random.nextInt(KINDS.length)];
            if (kind.equals("text")) {
                tellText();
            } else if (!isTooDear(kind)) {
                int count = methods.get(kind).getParameterCount();
                int[] a = new int[count];
                for (int k = 0; k < count; k++) {
                    a[k] = argument(kind, k);
                }
                if (kind.equals("send") && random.nextInt(4) > 0) {
                    fairPassing(a);
                }
                call(kind, a);
            }
        }
    }

    /** What Model answers too slowly of wide castles with many people. */
    private boolean isTooDear(String kind) {
        int people = life.castle.people.size();
        boolean wide = Math.pow(life.castle.rooms, people) > 300;
        return wide && (kind.equals("page") || kind.equals("price") || kind.equals("passing"));
    }

    private void tellText() throws ReflectiveOperationException {
        boolean castle = random.nextInt(3) == 0;
        // One castle is kept for a while, so that much happens in it.
        if (castle && life.castle.rooms > 0 && random.nextInt(6) > 0) {
            return;
        }
        String text = castle ? texts.castle(random.nextInt(4) == 0 ? 8 : 4) : texts.rule();
        if (random.nextInt(4) == 0) {
            text = texts.spoiled();
        }
        if (random.nextInt(8) > 0) {
            call("end", 0);
        }
        for (int at = 0; at < text.length(); at += 20) {
            call("feed", Check.fiveNumbers(text, at));
        }
        call("end", random.nextInt(12) == 0 ? random.nextInt(420) - 10 : text.length());
        call("count", 12);
        call(castle ? "castle" : "rule");
        call("count", 12);
    }

    private int argument(String kind, int k) {
        if (random.nextInt(12) == 0) {
            return EDGES[random.nextInt(EDGES.length)];
        }
        int people = life.castle.people.size();
        int rooms = life.castle.rooms;
        int doors = life.castle.doors.size();
        switch (kind + k) {
            case "person0": case "aim0": case "ahead0": case "comes0": case "page0": case "price0": case "note1":
            case "send0":
                return below(people);
            case "room0": case "aim1": case "note2": return below(rooms);
            case "door0": case "turned0": case "send1": return below(doors);
            case "fewest0": case "passing0": case "turned1": return below(1 << people);
            case "force0": return random.nextInt(7) - 1;
            case "person1": return below(8);
            case "door1": return below(4);
            case "room1": case "passing2": case "swap0": return below(3);
            case "send2": return random.nextInt(5) - 1;
            case "ahead1": return below(101);
            case "passing1": return below(6);
            case "note0": return random.nextInt(9) == 0 ? -1 : below(61) / (1 + random.nextInt(9));
            case "look0": return below(61) / (1 + random.nextInt(9));
            case "seed0": return random.nextInt();
            case "days0": return 1 + below(10);
            case "days1": return 1 + below(60);
            case "count0": return below(13);
            case "image0": case "back0": return below(4);
            default: return below(2);
        }
    }

    private int below(int number) {
        return number > 0 ? random.nextInt(number) : 0;
    }

    private void fairPassing(int[] a) {
        List<int[]> can = life.castle.passings(life.castle.here(), -1);
        if (!can.isEmpty()) {
            System.arraycopy(can.get(random.nextInt(can.size())), 0, a, 0, 3);
        }
    }

    private void call(String name, int... a) throws ReflectiveOperationException {
        Object[] numbers = new Object[a.length];
        StringBuilder words = new StringBuilder(name).append('(');
        for (int k = 0; k < a.length; k++) {
            numbers[k] = a[k];
            words.append(k > 0 ? ", " : "").append(a[k]);
        }
        words.append(')');
        said.add(words.toString());
        Object answer = methods.get(name).invoke(x, numbers);
        int got = answer instanceof Boolean ? (Boolean) answer ? 1 : 0 : (Integer) answer;
        int due = life.answer(name, a);
        if (got != due) {
            Check.due("behind " + said + ": " + words, got, due);
        }
    }
}
