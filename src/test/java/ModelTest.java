import java.util.List;
import java.util.Random;

/** All promises: random castles, rules and calls, each answer compared with the model's. */
public final class ModelTest {
    private static final String[] WORDS = {"person", "room", "far", "goal", "left", "pay", "moment", "night",
        "here", "in", "out", "asked"};
    private static final String[] SIGNS = {"<", "<=", "=", ">=", ">"};
    private static Random random;
    private static OutwardDoors x;
    private static Model model;

    public static void main(String[] args) {
        int runs = args.length > 1 ? Integer.parseInt(args[1]) : 150;
        int base = args.length > 2 ? Integer.parseInt(args[2]) : 0;
        for (int run = 0; run < runs && Check.wrongSoFar() == 0; run++) {
            random = new Random(base + run);
            oneRun(base + run);
        }
        for (int run = 0; run < runs && Check.wrongSoFar() == 0; run++) {
            random = new Random(base + run);
            prices("prices " + (base + run));
        }
        Check.finish("ModelTest");
    }

    private static void oneRun(int run) {
        String castle = someCastle();
        x = new OutwardDoors();
        model = new Model(castle);
        Check.due("run " + run + " castle " + castle, Check.castle(x, castle), model.people.size());
        int rules = random.nextInt(5);
        for (int k = 0; k < rules; k++) {
            String rule = someRule();
            // A longer one might have more parts than a rule may.
            while (rule.length() > 200) {
                rule = someRule();
            }
            model.rules.add(rule);
            Check.due("run " + run + " rule " + rule, Check.rule(x, rule), k);
        }
        for (int k = 0; k < 60 && Check.wrongSoFar() == 0; k++) {
            act(run);
            ask("run " + run + " call " + k + " of " + castle + " " + model.rules + ": ");
        }
    }

    /** Many doors and unlike pay, so that a cheaper row to a state is often found behind a dearer one. */
    private static void prices(String at) {
        int rooms = 3 + random.nextInt(3);
        StringBuilder text = new StringBuilder("castle " + rooms);
        for (int a = 0; a < rooms; a++) {
            for (int b = a + 1; b < rooms; b++) {
                if (b == a + 1 || random.nextInt(3) > 0) {
                    text.append(";door ").append(a).append(' ').append(b);
                }
            }
        }
        for (int p = 0; p < 4; p++) {
            text.append(";person ").append(p == 0 ? rooms - 1 : random.nextInt(rooms)).append(' ')
                .append(random.nextInt(rooms - 1)).append(' ').append(random.nextInt(51));
        }
        x = Check.with(text.toString());
        model = new Model(text.toString());
        for (int p = 0; p < 4; p++) {
            Check.due(at + " " + text + " of " + p, x.price(p), model.price(p));
        }
    }

    private static String someCastle() {
        int rooms = 2 + random.nextInt(random.nextInt(4) == 0 ? 7 : 4);
        StringBuilder text = new StringBuilder("castle " + rooms);
        boolean[][] told = new boolean[rooms][rooms];
        int doors = 0;
        for (int k = 0; k < rooms * 2 && doors < 14; k++) {
            int a = random.nextInt(rooms);
            int b = random.nextInt(rooms);
            if (a != b && !told[a][b]) {
                told[a][b] = true;
                told[b][a] = true;
                doors++;
                text.append(random.nextInt(3) == 0 ? ";window " : ";door ").append(a).append(' ').append(b);
            }
        }
        for (int k = random.nextInt(4); k > 0; k--) {
            text.append(";far ").append(random.nextInt(rooms)).append(' ').append(random.nextInt(5));
        }
        if (random.nextBoolean()) {
            int first = random.nextInt(24);
            text.append(";night ").append(first).append(' ').append(first + random.nextInt(24 - first));
        }
        for (int k = random.nextInt(10) == 0 ? 0 : 1 + random.nextInt(4); k > 0; k--) {
            text.append(";person ").append(random.nextInt(rooms)).append(' ').append(random.nextInt(rooms))
                .append(' ').append(random.nextInt(3) == 0 ? 0 : random.nextInt(51));
        }
        return text.toString();
    }

    private static String someRule() {
        StringBuilder text = new StringBuilder();
        for (int k = 1 + random.nextInt(3); k > 0; k--) {
            text.append(text.length() == 0 ? "go " : " ; go ").append(someSum());
            if (random.nextInt(3) > 0) {
                text.append(" if ").append(someTest(0));
            }
        }
        return text.toString();
    }

    private static String someTest(int depth) {
        StringBuilder text = new StringBuilder(someFact(depth));
        for (int k = random.nextInt(3); k > 0; k--) {
            text.append(random.nextBoolean() ? " or " : " and ").append(someFact(depth));
        }
        return text.toString();
    }

    private static String someFact(int depth) {
        int kind = depth < 2 ? random.nextInt(6) : 5;
        if (kind == 0) {
            return "not " + someFact(depth + 1);
        }
        if (kind == 1) {
            return "[ " + someTest(depth + 1) + " ]";
        }
        return someValue() + " " + SIGNS[random.nextInt(5)] + " " + someValue();
    }

    private static String someSum() {
        StringBuilder text = new StringBuilder(someValue());
        for (int k = random.nextInt(3); k > 0; k--) {
            text.append(" ").append("+-*/%".charAt(random.nextInt(5))).append(" ").append(someValue());
        }
        return text.toString();
    }

    private static String someValue() {
        return random.nextInt(3) == 0 ? String.valueOf(random.nextInt(4)) : WORDS[random.nextInt(WORDS.length)];
    }

    private static int somebody() {
        return model.people.isEmpty() ? 0 : random.nextInt(model.people.size());
    }

    private static void act(int run) {
        String at = "run " + run + ": ";
        int kind = random.nextInt(12);
        if (kind < 4) {
            Check.due(at + "moment", x.moment(), model.moment());
        } else if (kind == 4 && !model.people.isEmpty()) {
            int p = somebody();
            int r = random.nextInt(model.rooms);
            Check.due(at + "aim " + p + " " + r, x.aim(p, r), model.aim(p, r));
        } else if (kind < 7) {
            sendOne(at);
        } else if (kind == 7) {
            Check.due(at + "undo", x.undo(), model.undo());
        } else if (kind == 8) {
            int k = random.nextInt(model.rules.size() + 1) - 1;
            Check.due(at + "force " + k, x.force(k), model.inForce);
            model.inForce = k;
        } else if (kind == 9) {
            int s = random.nextInt(Integer.MAX_VALUE);
            Check.due(at + "seed " + s, x.seed(s), model.x);
            model.x = s;
        } else if (kind == 10 && !model.people.isEmpty() && model.notes.size() < 10) {
            noteOne(at);
        } else if (kind == 11) {
            Check.due(at + "no notes", x.note(-1, 0, 0), 0);
            model.notes.clear();
        }
    }

    private static void sendOne(String at) {
        List<int[]> can = model.passings(model.here(), -1);
        int[] p = {random.nextInt(4), random.nextInt(6), random.nextInt(5) - 1};
        if (!can.isEmpty() && random.nextInt(4) > 0) {
            p = can.get(random.nextInt(can.size()));
        }
        Check.due(at + "send " + p[0] + " " + p[1] + " " + p[2], x.send(p[0], p[1], p[2]),
            model.send(p[0], p[1], p[2]));
    }

    private static void noteOne(String at) {
        int n = random.nextInt(61);
        int p = somebody();
        int r = random.nextInt(3) == 0 ? random.nextInt(model.rooms)
            : model.after(model.begin(), n, random.nextInt(model.rules.size() + 1) - 1).room[p];
        model.notes.add(new int[] {n, p, r});
        Check.due(at + "note " + n + " " + p + " " + r, x.note(n, p, r), model.notes.size());
    }

    private static void ask(String at) {
        askCounts(at);
        int set = random.nextInt(1 << model.people.size());
        switch (random.nextInt(8)) {
            case 0:
                Check.due(at + "fewest " + set, x.fewest(set), model.fewest(model.here(), set, -1));
                break;
            case 1:
                askRow(at, set);
                break;
            case 2:
                Check.due(at + "caught 0", x.caught(0), model.caught(0));
                Check.due(at + "caught 1", x.caught(1), model.caught(1));
                break;
            case 3:
                askTurned(at, set);
                break;
            case 4:
                Check.due(at + "ruled 0", x.ruled(0), model.fitting().size());
                Check.due(at + "ruled 1", x.ruled(1), model.fitting().isEmpty() ? -2 : model.fitting().get(0));
                break;
            case 5:
                int n = random.nextInt(61);
                Check.due(at + "look 0", x.look(n, 0), model.look(n, 0));
                Check.due(at + "look 1", x.look(n, 1), model.look(n, 1));
                break;
            case 6:
                int m = 1 + random.nextInt(10);
                int k = 1 + random.nextInt(60);
                Check.due(at + "days 0", x.days(m, k, 0), model.days(m, k, 0));
                Check.due(at + "days 1", x.days(m, k, 1), model.days(m, k, 1));
                break;
            default:
                askPerson(at);
        }
    }

    private static void askRow(String at, int set) {
        List<int[]> row = model.row(set);
        for (int k = 0; k < row.size(); k++) {
            for (int what = 0; what < 3; what++) {
                Check.due(at + "passing " + set + " " + k + " " + what, x.passing(set, k, what), row.get(k)[what]);
            }
        }
        Check.due(at + "passing behind", x.passing(set, row.size(), 0), -2);
    }

    private static void askTurned(String at, int set) {
        for (int d = 0; d < model.doors.size(); d++) {
            int due = model.open(model.now, model.doors.get(d)) ? model.fewest(model.here(), set, d) : -1;
            Check.due(at + "turned " + d + " " + set, x.turned(d, set), due);
        }
    }

    private static void askPerson(String at) {
        if (model.people.isEmpty()) {
            return;
        }
        int p = somebody();
        if (model.rooms < 6) {
            Check.due(at + "page 0 " + p, x.page(p, 0), model.page(p, 0));
            Check.due(at + "page 1 " + p, x.page(p, 1), model.page(p, 1));
        }
        Check.due(at + "price " + p, x.price(p), model.price(p));
        Check.due(at + "comes " + p, x.comes(p), model.comes(p));
        int n = random.nextInt(101);
        Check.due(at + "ahead " + p + " " + n, x.ahead(p, n), model.after(model.now, n, model.inForce).room[p]);
    }

    private static void askCounts(String at) {
        Model.State s = model.now;
        int in = 0;
        int out = 0;
        for (int p = 0; p < model.people.size(); p++) {
            int[] due = {s.room[p], s.goal[p], model.people.get(p)[2], model.left(s, s.room[p], s.goal[p]),
                model.step(s, p), s.in[p], s.out[p], s.by[p]};
            for (int what = 0; what < due.length; what++) {
                Check.due(at + "person " + p + " " + what, x.person(p, what), due[what]);
            }
            in += s.in[p];
            out += s.out[p];
        }
        int[] due = {model.rooms, model.doors.size(), model.people.size(), model.rules.size(), model.inForce,
            s.moment, model.night(s) ? 1 : 0, in, out, model.notes.size(), model.past.size(), model.x, 0};
        for (int what = 0; what < due.length; what++) {
            Check.due(at + "count " + what, x.count(what), due[what]);
        }
        for (int r = 0; r < model.rooms; r++) {
            int who = 0;
            for (int p = 0; p < model.people.size(); p++) {
                who |= s.room[p] == r ? 1 << p : 0;
            }
            Check.due(at + "room 0", x.room(r, 0), model.far[r]);
            Check.due(at + "room 1", x.room(r, 1), who);
            Check.due(at + "room 2", x.room(r, 2), model.outside(r));
        }
        for (int d = 0; d < model.doors.size(); d++) {
            Model.Door door = model.doors.get(d);
            Check.due(at + "door 0", x.door(d, 0), door.inner);
            Check.due(at + "door 1", x.door(d, 1), door.outer);
            Check.due(at + "door 2", x.door(d, 2), door.window ? 1 : 0);
            Check.due(at + "door 3", x.door(d, 3), model.open(s, door) ? 1 : 0);
        }
        for (int what = 0; what < 3; what++) {
            Check.due(at + "swap " + what, x.swap(what), model.swap(what));
        }
    }
}
