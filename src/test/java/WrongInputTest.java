import java.util.Random;

/** No call throws or fails to end, for any arguments in any state; questions change nothing. */
public final class WrongInputTest {
    private static final int[] ODD = {Integer.MIN_VALUE, Integer.MAX_VALUE, -3, -2, -1, 0, 1, 2, 3, 4, 5, 7, 8, 13, 14,
        15, 16, 31, 32, 60, 61, 100, 101, 400, 999, 65536};
    private static final String[] TEXTS = {
        "castle 8;door 0 1;door 1 2;door 2 3;door 3 4;door 4 5;door 5 6;door 6 7;door 0 7;window 0 2;window 1 3;"
            + "door 2 4;window 3 5;window 4 6;window 5 7;night 0 23;person 7 0 1;person 6 1 2;person 0 7 3;person 1 6 50",
        "castle 2;door 0 1;person 0 1 0", "castle 3", "castle 2;person 0 0 0;person 1 1 1;night 3 3",
        "go 1 / 0 - left % 0", "go 0 - 1 if not [not [not [not [not asked < here * 99999]]]]", "go x", "castle 9"};
    private static Random random;

    public static void main(String[] args) {
        for (int run = 0; run < 200; run++) {
            random = new Random(run);
            OutwardDoors x = new OutwardDoors();
            for (int k = 0; k < 400; k++) {
                someCall(x);
            }
        }
        for (int run = 0; run < 100; run++) {
            random = new Random(run);
            askedTwice(run);
        }
        Check.finish("WrongInputTest");
    }

    private static int odd() {
        return random.nextInt(3) == 0 ? ODD[random.nextInt(ODD.length)] : random.nextInt(10) - 1;
    }

    private static void someCall(OutwardDoors x) {
        int kind = random.nextInt(34);
        if (kind < 3) {
            Check.tell(x, TEXTS[random.nextInt(TEXTS.length)]);
        } else if (kind < 5) {
            x.castle();
        } else if (kind < 6) {
            x.rule();
        } else if (kind < 7) {
            x.feed(random.nextInt(), random.nextInt(), odd(), odd(), odd());
        } else if (kind < 8) {
            x.end(odd());
        } else if (kind < 16) {
            change(x, kind);
        } else {
            ask(x, kind, odd(), odd(), odd());
        }
    }

    private static void change(OutwardDoors x, int kind) {
        switch (kind) {
            case 8: x.force(odd()); break;
            case 9: x.moment(); break;
            case 10: x.aim(odd(), odd()); break;
            case 11: x.send(odd(), odd(), odd()); break;
            case 12: x.undo(); break;
            case 13: x.note(odd(), odd(), odd()); break;
            case 14: x.seed(odd()); x.image(odd()); break;
            default: x.back(odd()); break;
        }
    }

    private static int ask(OutwardDoors x, int kind, int a, int b, int c) {
        switch (kind) {
            case 16: return x.person(a, b);
            case 17: return x.room(a, b);
            case 18: return x.door(a, b);
            case 19: return x.ahead(a, b);
            case 20: return x.comes(a);
            case 21: return x.fewest(a);
            case 22: return x.passing(a, b, c);
            case 23: return x.caught(a);
            case 24: return x.page(a, b);
            case 25: return x.price(a);
            case 26: return x.turned(a, b);
            case 27: return x.swap(a);
            case 28: return x.ruled(a);
            case 29: return x.look(a, b);
            case 30: return x.days(a, b, c);
            default: return x.count(a);
        }
    }

    /** Between two that are told alike, whatever the first alone is asked makes no difference. */
    private static void askedTwice(int run) {
        OutwardDoors x = Check.with(TEXTS[run % 4], TEXTS[4], TEXTS[5]);
        OutwardDoors y = Check.with(TEXTS[run % 4], TEXTS[4], TEXTS[5]);
        for (int k = 0; k < 40; k++) {
            int kind = 8 + random.nextInt(8);
            long seed = random.nextLong();
            random = new Random(seed);
            change(x, kind);
            random = new Random(seed);
            change(y, kind);
            for (int i = 0; i < 10; i++) {
                ask(x, 16 + random.nextInt(16), odd(), odd(), odd());
            }
            for (int i = 0; i < 10; i++) {
                int which = 16 + random.nextInt(16);
                int a = random.nextInt(5);
                int b = random.nextInt(4);
                int c = random.nextInt(2);
                Check.due("run " + run + " question " + which + " of " + a + " " + b + " " + c,
                    ask(x, which, a, b, c), ask(y, which, a, b, c));
            }
        }
    }
}
