import java.util.ArrayList;
import java.util.Arrays;
import java.util.HashMap;
import java.util.List;
import java.util.Map;

/**
 * The document once more, written as plainly as the library allows and without a thought of cost:
 * what random runs are compared with. It takes its castle and rules as well-formed texts;
 * of an empty text it is a castle of no rooms.
 */
final class Model {
    static final class Door {
        int inner;
        int outer;
        boolean window;
    }

    static final class State implements Cloneable {
        int[] room;
        int[] goal;
        int[] in;
        int[] out;
        int[] by;
        int moment;

        State copy() {
            State s = new State();
            s.room = room.clone();
            s.goal = goal.clone();
            s.in = in.clone();
            s.out = out.clone();
            s.by = by.clone();
            s.moment = moment;
            return s;
        }
    }

    int rooms;
    int[] far;
    List<Door> doors = new ArrayList<>();
    List<int[]> people = new ArrayList<>();
    int nightFirst = 99;
    int nightLast = -1;
    List<String> rules = new ArrayList<>();
    int inForce = -1;
    List<int[]> notes = new ArrayList<>();
    List<State> past = new ArrayList<>();
    State now;
    int passedIn;
    int passedOut;
    int x;

    Model(String castle) {
        for (String clause : castle.isEmpty() ? new String[0] : castle.split(";")) {
            String[] w = clause.trim().split(" +");
            if (w[0].equals("castle")) {
                rooms = Integer.parseInt(w[1]);
                far = new int[rooms];
                for (int r = 0; r < rooms; r++) {
                    far[r] = r;
                }
            } else if (w[0].equals("far")) {
                far[Integer.parseInt(w[1])] = Integer.parseInt(w[2]);
            } else if (w[0].equals("night")) {
                nightFirst = Integer.parseInt(w[1]);
                nightLast = Integer.parseInt(w[2]);
            } else if (w[0].equals("person")) {
                people.add(new int[] {Integer.parseInt(w[1]), Integer.parseInt(w[2]), Integer.parseInt(w[3])});
            } else {
                Door d = new Door();
                d.inner = Integer.parseInt(w[1]);
                d.outer = Integer.parseInt(w[2]);
                d.window = w[0].equals("window");
                doors.add(d);
            }
        }
        for (Door d : doors) {
            int a = Math.min(d.inner, d.outer);
            int b = Math.max(d.inner, d.outer);
            d.inner = far[a] <= far[b] ? a : b;
            d.outer = far[a] <= far[b] ? b : a;
        }
        now = begin();
    }

    State begin() {
        State s = new State();
        int n = people.size();
        s.room = new int[n];
        s.goal = new int[n];
        s.in = new int[n];
        s.out = new int[n];
        s.by = new int[n];
        Arrays.fill(s.by, -1);
        for (int p = 0; p < n; p++) {
            s.room[p] = people.get(p)[0];
            s.goal[p] = people.get(p)[1];
        }
        return s;
    }

    boolean night(State s) {
        return s.moment % 24 >= nightFirst && s.moment % 24 <= nightLast;
    }

    boolean open(State s, Door d) {
        return far[d.inner] != far[d.outer] && (!d.window || night(s));
    }

    int left(State s, int from, int goal) {
        int[] dist = new int[rooms];
        Arrays.fill(dist, 99);
        dist[goal] = 0;
        for (int round = 0; round < rooms; round++) {
            for (Door d : doors) {
                if (open(s, d)) {
                    dist[d.inner] = Math.min(dist[d.inner], dist[d.outer] + 1);
                    dist[d.outer] = Math.min(dist[d.outer], dist[d.inner] + 1);
                }
            }
        }
        return Math.min(99, dist[from]);
    }

    int step(State s, int p) {
        if (left(s, s.room[p], s.goal[p]) % 99 == 0) {
            return -1;
        }
        int best = -1;
        for (Door d : doors) {
            int to = d.inner == s.room[p] ? d.outer : d.outer == s.room[p] ? d.inner : -1;
            if (to >= 0 && open(s, d)) {
                int l = left(s, to, s.goal[p]);
                int b = best < 0 ? 1000 : left(s, best, s.goal[p]);
                if (l < b || l == b && to < best) {
                    best = to;
                }
            }
        }
        return best;
    }

    long word(State s, int p, String w) {
        switch (w) {
            case "person": return p;
            case "room": return s.room[p];
            case "far": return far[s.room[p]];
            case "goal": return s.goal[p];
            case "left": return left(s, s.room[p], s.goal[p]);
            case "pay": return people.get(p)[2];
            case "moment": return s.moment;
            case "night": return night(s) ? 1 : 0;
            case "in": return s.in[p];
            case "out": return s.out[p];
            default:
        }
        int here = 0;
        int asked = 0;
        for (int q = 0; q < people.size(); q++) {
            if (q != p) {
                here += s.room[q] == s.room[p] ? 1 : 0;
                asked += step(s, q) == s.room[p] && far[s.room[q]] > far[s.room[p]] ? 1 : 0;
            }
        }
        return w.equals("here") ? here : asked;
    }

    /** Evaluates a rule straight from its text; its tokens stand between blanks. */
    final class Reading {
        final State s;
        final int p;
        String[] tokens;
        int at;

        Reading(State s, int p) {
            this.s = s;
            this.p = p;
        }

        long will(String rule) {
            for (String clause : rule.split(";")) {
                tokens = (clause.trim() + " .").split(" +");
                at = 1;
                long sum = sum();
                if (tokens[at].equals(".")) {
                    return sum;
                }
                at++;
                if (test()) {
                    return sum;
                }
            }
            return 0;
        }

        boolean test() {
            boolean holds = part();
            while (tokens[at].equals("or")) {
                at++;
                holds = part() || holds;
            }
            return holds;
        }

        boolean part() {
            boolean holds = fact();
            while (tokens[at].equals("and")) {
                at++;
                holds = fact() && holds;
            }
            return holds;
        }

        boolean fact() {
            if (tokens[at].equals("not")) {
                at++;
                return !fact();
            }
            if (tokens[at].equals("[")) {
                at++;
                boolean holds = test();
                at++;
                return holds;
            }
            long a = sum();
            String sign = tokens[at++];
            long b = sum();
            switch (sign) {
                case "<": return a < b;
                case "<=": return a <= b;
                case "=": return a == b;
                case ">=": return a >= b;
                default: return a > b;
            }
        }

        long sum() {
            long a = term();
            while (tokens[at].equals("+") || tokens[at].equals("-")) {
                boolean plus = tokens[at++].equals("+");
                long b = term();
                a = plus ? a + b : a - b;
            }
            return a;
        }

        long term() {
            long a = value();
            while ("*/%".contains(tokens[at])) {
                String sign = tokens[at++];
                long b = value();
                if (sign.equals("*")) {
                    a = a * b;
                } else if (b == 0) {
                    a = 0;
                } else {
                    a = sign.equals("/") ? a / b : a % b;
                }
            }
            return a;
        }

        long value() {
            String t = tokens[at++];
            return Character.isDigit(t.charAt(0)) ? Long.parseLong(t) : word(s, p, t);
        }
    }

    State advance(State s, int rule) {
        State t = s.copy();
        passedIn = 0;
        passedOut = 0;
        int[] target = new int[people.size()];
        for (int p = 0; p < people.size(); p++) {
            long will = rule < 0 ? 1 : new Reading(s, p).will(rules.get(rule));
            target[p] = will > 0 ? step(s, p) : -1;
            for (int d = doors.size() - 1; d >= 0 && will < 0; d--) {
                if (open(s, doors.get(d)) && doors.get(d).inner == s.room[p]) {
                    target[p] = doors.get(d).outer;
                }
            }
        }
        for (Door d : doors) {
            List<Integer> out = new ArrayList<>();
            List<Integer> in = new ArrayList<>();
            for (int p = 0; p < people.size(); p++) {
                if (s.room[p] == d.inner && target[p] == d.outer) {
                    out.add(p);
                }
                if (s.room[p] == d.outer && target[p] == d.inner) {
                    in.add(p);
                }
            }
            for (int p : out) {
                t.room[p] = d.outer;
                t.out[p]++;
                passedOut++;
            }
            for (int k = 0; k < Math.min(in.size(), out.size()); k++) {
                int p = in.get(k);
                t.room[p] = d.inner;
                t.in[p]++;
                t.by[p] = out.get(k);
                passedIn++;
            }
        }
        t.moment = Math.min(999, s.moment + 1);
        return t;
    }

    State after(State s, int n, int rule) {
        for (int k = 0; k < n; k++) {
            s = advance(s, rule);
        }
        return s;
    }

    /** All passings as {out, door, in}, in order; a turned door adds {-1, door, in}. */
    List<int[]> passings(List<Integer> at, int turned) {
        List<int[]> all = new ArrayList<>();
        for (int p = 0; p < at.size(); p++) {
            for (int d = 0; d < doors.size(); d++) {
                for (int q = -1; q < at.size(); q++) {
                    Door door = doors.get(d);
                    boolean comes = q < 0 || q != p && at.get(q) == door.outer;
                    if (open(now, door) && at.get(p) == door.inner && comes) {
                        all.add(new int[] {p, d, q});
                    }
                }
            }
            if (turned >= 0 && at.get(p) == doors.get(turned).outer) {
                all.add(new int[] {-1, turned, p});
            }
        }
        return all;
    }

    List<Integer> pass(List<Integer> at, int[] passing) {
        List<Integer> then = new ArrayList<>(at);
        if (passing[0] >= 0) {
            then.set(passing[0], doors.get(passing[1]).outer);
        }
        if (passing[2] >= 0) {
            then.set(passing[2], doors.get(passing[1]).inner);
        }
        return then;
    }

    List<Integer> here() {
        List<Integer> at = new ArrayList<>();
        for (int r : now.room) {
            at.add(r);
        }
        return at;
    }

    Map<List<Integer>, Integer> distances(List<Integer> from, int turned) {
        Map<List<Integer>, Integer> dist = new HashMap<>();
        List<List<Integer>> queue = new ArrayList<>();
        dist.put(from, 0);
        queue.add(from);
        for (int head = 0; head < queue.size(); head++) {
            List<Integer> at = queue.get(head);
            for (int[] passing : passings(at, turned)) {
                List<Integer> then = pass(at, passing);
                if (!dist.containsKey(then)) {
                    dist.put(then, dist.get(at) + 1);
                    queue.add(then);
                }
            }
        }
        return dist;
    }

    boolean atGoals(List<Integer> at, int set) {
        for (int p = 0; p < people.size(); p++) {
            if ((set >> p & 1) == 1 && at.get(p) != now.goal[p]) {
                return false;
            }
        }
        return true;
    }

    int fewest(List<Integer> from, int set, int turned) {
        int best = -2;
        for (Map.Entry<List<Integer>, Integer> e : distances(from, turned).entrySet()) {
            if (atGoals(e.getKey(), set) && (best < 0 || e.getValue() < best)) {
                best = e.getValue();
            }
        }
        return best;
    }

    /** The first of the shortest rows: each time the first passing that leaves one fewer. */
    List<int[]> row(int set) {
        List<int[]> row = new ArrayList<>();
        List<Integer> at = here();
        for (int more = fewest(at, set, -1); more > 0; more--) {
            for (int[] passing : passings(at, -1)) {
                List<Integer> then = pass(at, passing);
                if (fewest(then, set, -1) == more - 1) {
                    row.add(passing);
                    at = then;
                    break;
                }
            }
        }
        return row;
    }

    int caught(int what) {
        int bits = 0;
        for (int p = 0; p < people.size(); p++) {
            boolean can = false;
            for (List<Integer> at : distances(here(), -1).keySet()) {
                can |= what == 0 ? at.get(p) == now.goal[p] : at.get(p) != now.room[p];
            }
            bits |= can ? 0 : 1 << p;
        }
        return bits;
    }

    int page(int person, int what) {
        int best = -2;
        int room = -2;
        for (int r = 0; r < rooms; r++) {
            List<Integer> at = here();
            at.add(r);
            int n = fewest(at, 1 << person, -1);
            if (n >= 0 && (best < 0 || n < best)) {
                best = n;
                room = r;
            }
        }
        return what == 0 ? room : best;
    }

    int price(int person) {
        Map<List<Integer>, Integer> cost = new HashMap<>();
        cost.put(here(), 0);
        boolean changed = true;
        while (changed) {
            changed = false;
            for (List<Integer> at : new ArrayList<>(cost.keySet())) {
                for (int[] passing : passings(at, -1)) {
                    int c = cost.get(at) + (passing[0] == person ? 0 : people.get(passing[0])[2]);
                    List<Integer> then = pass(at, passing);
                    if (c < cost.getOrDefault(then, Integer.MAX_VALUE)) {
                        cost.put(then, c);
                        changed = true;
                    }
                }
            }
        }
        int best = -2;
        for (Map.Entry<List<Integer>, Integer> e : cost.entrySet()) {
            if (atGoals(e.getKey(), 1 << person) && (best < 0 || e.getValue() < best)) {
                best = e.getValue();
            }
        }
        return best;
    }

    int swap(int what) {
        List<int[]> twos = new ArrayList<>();
        for (int p = 0; p < people.size(); p++) {
            for (int q = p + 1; q < people.size(); q++) {
                boolean one = left(now, now.room[q], now.goal[p]) < left(now, now.room[p], now.goal[p]);
                boolean other = left(now, now.room[p], now.goal[q]) < left(now, now.room[q], now.goal[q]);
                if (one && other) {
                    twos.add(new int[] {p, q});
                }
            }
        }
        if (what == 0) {
            return twos.size();
        }
        return twos.isEmpty() ? -2 : twos.get(0)[what - 1];
    }

    int outside(int room) {
        int bits = 0;
        for (Door d : doors) {
            if (d.inner == room && open(now, d)) {
                bits |= 1 << d.outer | outside(d.outer);
            }
        }
        return bits;
    }

    List<Integer> fitting() {
        List<Integer> fit = new ArrayList<>();
        for (int k = -1; k < rules.size(); k++) {
            boolean fits = true;
            for (int[] note : notes) {
                fits &= after(begin(), note[0], k).room[note[1]] == note[2];
            }
            if (fits) {
                fit.add(k);
            }
        }
        return fit;
    }

    int look(int n, int what) {
        int best = -2;
        int person = -2;
        for (int p = 0; p < people.size() && !fitting().isEmpty(); p++) {
            int[] alike = new int[rooms];
            for (int k : fitting()) {
                alike[after(begin(), n, k).room[p]]++;
            }
            int most = Arrays.stream(alike).max().getAsInt();
            if (best < 0 || most < best) {
                best = most;
                person = p;
            }
        }
        return what == 0 ? person : best;
    }

    int days(int m, int n, int what) {
        if (people.isEmpty()) {
            return 0;
        }
        long y = x;
        int passed = 0;
        for (int day = 0; day < m; day++) {
            State s = now.copy();
            for (int k = 0; k < n; k++) {
                y = (y * 1103515245L + 12345L) % 2147483648L;
                int who = (int) (y / 65536 % people.size());
                y = (y * 1103515245L + 12345L) % 2147483648L;
                s.goal[who] = (int) (y / 65536 % rooms);
                s = advance(s, inForce);
                passed += what == 0 ? passedIn : passedOut;
            }
        }
        return passed;
    }

    int comes(int person) {
        State s = now;
        for (int k = 0; k <= 200; k++) {
            if (s.room[person] == s.goal[person]) {
                return s.moment;
            }
            s = advance(s, inForce);
        }
        return -2;
    }

    void keep() {
        past.add(now);
        if (past.size() > 20) {
            past.remove(0);
        }
    }

    int moment() {
        keep();
        now = advance(now, inForce);
        return passedIn + passedOut;
    }

    int aim(int person, int room) {
        int before = now.goal[person];
        if (before == room) {
            return -1;
        }
        keep();
        now = now.copy();
        now.goal[person] = room;
        return before;
    }

    boolean send(int out, int door, int in) {
        for (int[] passing : passings(here(), -1)) {
            if (passing[0] == out && passing[1] == door && passing[2] == in) {
                keep();
                now = now.copy();
                now.room[out] = doors.get(door).outer;
                now.out[out]++;
                if (in >= 0) {
                    now.room[in] = doors.get(door).inner;
                    now.in[in]++;
                    now.by[in] = out;
                }
                return true;
            }
        }
        return false;
    }

    int undo() {
        if (past.isEmpty()) {
            return -1;
        }
        now = past.remove(past.size() - 1);
        return past.size();
    }
}
