import java.util.ArrayList;
import java.util.List;

/** A whole object once more: the tape, faults, images and what each call refuses, around Model. */
final class Life {
    private static final int NONE = -1;

    /** All that an image holds. */
    private static final class Image {
        Model castle;
        Model.State now;
        List<int[]> notes;
        int inForce;
        int x;
    }

    private final StringBuilder tape = new StringBuilder();
    private final List<String> rules = new ArrayList<>();
    private final Image[] images = new Image[4];
    private boolean told;

    /** Before a castle is told, this one has no rooms, doors or people. */
    Model castle = new Model("");

    int answer(String call, int[] a) {
        switch (call) {
            case "feed": return feed(a);
            case "end": return end(a[0]);
            case "castle": return castle();
            case "rule": return rule();
            case "force": return force(a[0]);
            case "person": return person(a[0], a[1]);
            case "room": return room(a[0], a[1]);
            case "door": return door(a[0], a[1]);
            case "note": return note(a[0], a[1], a[2]);
            case "seed": return seed(a[0]);
            case "count": return count(a[0]);
            case "image": return image(a[0]);
            case "back": return back(a[0]);
            case "moment": return told && castle.now.moment < 999 ? castle.moment() : NONE;
            case "aim": return hasPerson(a[0]) && hasRoom(a[1]) ? castle.aim(a[0], a[1]) : NONE;
            case "send": return told && castle.send(a[0], a[1], a[2]) ? 1 : 0;
            case "undo": return castle.undo();
            default: return asked(call, a);
        }
    }

    private int asked(String call, int[] a) {
        int first = a[0];
        int last = a[a.length - 1];
        switch (call) {
            case "ahead": return hasPerson(first) && isWithin(last, 0, 100) ? ahead(first, last) : NONE;
            case "comes": return hasPerson(first) ? castle.comes(first) : NONE;
            case "price": return hasPerson(first) ? castle.price(first) : NONE;
            case "page": return hasPerson(first) && isWithin(last, 0, 1) ? castle.page(first, last) : NONE;
            case "fewest": return hasSet(first) ? castle.fewest(castle.here(), first, NONE) : NONE;
            case "passing": return hasSet(first) && a[1] >= 0 && isWithin(last, 0, 2) ? passing(a) : -3;
            case "caught": return told && isWithin(last, 0, 1) ? castle.caught(last) : NONE;
            case "turned": return isOpen(first) && hasSet(last) ? castle.fewest(castle.here(), last, first) : NONE;
            case "swap": return told && isWithin(last, 0, 2) ? castle.swap(last) : NONE;
            case "ruled": return told && isWithin(last, 0, 1) ? ruled(last) : -3;
            case "look": return told && isWithin(first, 0, 60) && isWithin(last, 0, 1) ? castle.look(first, last) : NONE;
            default: return days(a);
        }
    }

    private static boolean isWithin(int number, int low, int high) {
        return number >= low && number <= high;
    }

    private boolean hasPerson(int person) {
        return isWithin(person, 0, castle.people.size() - 1);
    }

    private boolean hasRoom(int room) {
        return isWithin(room, 0, castle.rooms - 1);
    }

    private boolean hasSet(int set) {
        return told && isWithin(set, 0, (1 << castle.people.size()) - 1);
    }

    private boolean isOpen(int door) {
        return isWithin(door, 0, castle.doors.size() - 1) && castle.open(castle.now, castle.doors.get(door));
    }

    private int feed(int[] five) {
        if (tape.length() > 380) {
            return NONE;
        }
        for (int number : five) {
            for (int shift = 24; shift >= 0; shift -= 8) {
                tape.append((char) (number >>> shift & 255));
            }
        }
        return tape.length();
    }

    private int end(int n) {
        if (!isWithin(n, 0, tape.length())) {
            return NONE;
        }
        tape.setLength(n);
        return n;
    }

    private String takeTape() {
        String text = tape.toString();
        tape.setLength(0);
        return text;
    }

    private int castle() {
        String text = takeTape();
        int fault = Faults.ofCastle(text);
        if (fault != 0) {
            return -2 - fault;
        }
        Model fresh = new Model(Faults.spaced(text));
        fresh.rules = rules;
        fresh.inForce = castle.inForce;
        fresh.x = castle.x;
        castle = fresh;
        told = true;
        return castle.people.size();
    }

    private int rule() {
        if (rules.size() == 6) {
            return NONE;
        }
        String text = takeTape();
        int fault = Faults.ofRule(text);
        if (fault != 0) {
            return -2 - fault;
        }
        rules.add(Faults.spaced(text));
        return rules.size() - 1;
    }

    private int force(int rule) {
        if (!isWithin(rule, NONE, rules.size() - 1)) {
            return -2;
        }
        int before = castle.inForce;
        castle.inForce = rule;
        return before;
    }

    private int person(int p, int what) {
        if (!hasPerson(p) || !isWithin(what, 0, 7)) {
            return -2;
        }
        Model.State s = castle.now;
        return new int[] {s.room[p], s.goal[p], castle.people.get(p)[2], castle.left(s, s.room[p], s.goal[p]),
            castle.step(s, p), s.in[p], s.out[p], s.by[p]}[what];
    }

    private int room(int r, int what) {
        if (!hasRoom(r) || !isWithin(what, 0, 2)) {
            return NONE;
        }
        int who = 0;
        for (int p = 0; p < castle.people.size(); p++) {
            who |= castle.now.room[p] == r ? 1 << p : 0;
        }
        return new int[] {castle.far[r], who, castle.outside(r)}[what];
    }

    private int door(int d, int what) {
        if (!isWithin(d, 0, castle.doors.size() - 1) || !isWithin(what, 0, 3)) {
            return NONE;
        }
        Model.Door door = castle.doors.get(d);
        return new int[] {door.inner, door.outer, door.window ? 1 : 0, isOpen(d) ? 1 : 0}[what];
    }

    private int ahead(int person, int n) {
        return castle.after(castle.now, n, castle.inForce).room[person];
    }

    private int passing(int[] a) {
        List<int[]> row = castle.row(a[0]);
        return a[1] < row.size() ? row.get(a[1])[a[2]] : -2;
    }

    private int note(int n, int person, int room) {
        if (n == NONE) {
            castle.notes.clear();
            return 0;
        }
        if (!isWithin(n, 0, 60) || !hasPerson(person) || !hasRoom(room) || castle.notes.size() == 10) {
            return -2;
        }
        castle.notes.add(new int[] {n, person, room});
        return castle.notes.size();
    }

    private int ruled(int what) {
        List<Integer> fitting = castle.fitting();
        if (what == 0) {
            return fitting.size();
        }
        return fitting.isEmpty() ? -2 : fitting.get(0);
    }

    private int seed(int x) {
        if (x < 0) {
            return NONE;
        }
        int before = castle.x;
        castle.x = x;
        return before;
    }

    private int days(int[] a) {
        boolean fits = isWithin(a[0], 1, 10) && isWithin(a[1], 1, 60) && isWithin(a[2], 0, 1);
        return told && fits ? castle.days(a[0], a[1], a[2]) : NONE;
    }

    private int count(int what) {
        if (!isWithin(what, 0, 12)) {
            return NONE;
        }
        int in = 0;
        int out = 0;
        for (int p = 0; p < castle.people.size(); p++) {
            in += castle.now.in[p];
            out += castle.now.out[p];
        }
        return new int[] {castle.rooms, castle.doors.size(), castle.people.size(), rules.size(), castle.inForce,
            castle.now.moment, castle.night(castle.now) ? 1 : 0, in, out, castle.notes.size(), castle.past.size(),
            castle.x, tape.length()}[what];
    }

    private int image(int k) {
        if (!isWithin(k, 0, 3)) {
            return NONE;
        }
        Image image = new Image();
        image.castle = castle;
        image.now = castle.now.copy();
        image.notes = new ArrayList<>(castle.notes);
        image.inForce = castle.inForce;
        image.x = castle.x;
        images[k] = image;
        return image.now.moment;
    }

    private int back(int k) {
        if (!isWithin(k, 0, 3) || images[k] == null) {
            return NONE;
        }
        castle = images[k].castle;
        castle.now = images[k].now.copy();
        castle.notes = new ArrayList<>(images[k].notes);
        castle.inForce = images[k].inForce;
        castle.x = images[k].x;
        castle.past.clear();
        told = castle.rooms > 0;
        return castle.now.moment;
    }
}
