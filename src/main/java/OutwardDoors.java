import java.util.Arrays;

/** A castle whose doors open only outward, as ../shared/DOC.md promises it. */
public final class OutwardDoors {
    public static final int NONE = -1;

    private static final int ABSENT = -2;
    private static final int WRONG = -3;
    private static final int MOST_ROOMS = 8;
    private static final int MOST_DOORS = 14;
    private static final int MOST_PEOPLE = 4;
    private static final int MOST_RULES = 6;
    private static final int MOST_NOTES = 10;
    private static final int MOST_IMAGES = 4;
    private static final int MOST_PAST = 20;
    private static final int LAST_MOMENT = 999;
    private static final int MOST_LOOKED_AT = 200;
    private static final int LAST_NOTED = 60;
    private static final int NO_WAY = 99;

    private final Tape tape;
    private final CastleReader castleReader;
    private final RuleReader ruleReader;
    private final Rule[] rules;
    private final Rule unruled;
    private final Scene scene;
    private final Scene[] images;
    private final World trial;
    private final World[] past;
    private final Mover mover;
    private final Search search;
    private final Pricer pricer;
    private final int[] tally;
    private int ruleCount;
    private int pastCount;
    private int pastNext;

    public OutwardDoors() {
        tape = new Tape();
        castleReader = new CastleReader(tape);
        rules = new Rule[MOST_RULES];
        for (int k = 0; k < MOST_RULES; k++) {
            rules[k] = new Rule();
        }
        ruleReader = new RuleReader(tape, rules[0]);
        unruled = new Rule();
        unruled.becomeOne();
        scene = new Scene(new Plan());
        images = new Scene[MOST_IMAGES];
        for (int k = 0; k < MOST_IMAGES; k++) {
            images[k] = new Scene(scene.plan);
        }
        trial = new World();
        past = new World[MOST_PAST];
        for (int k = 0; k < MOST_PAST; k++) {
            past[k] = new World();
        }
        mover = new Mover();
        search = new Search(scene.plan);
        pricer = new Pricer(scene.plan);
        tally = new int[MOST_PEOPLE * MOST_ROOMS];
    }

    // ---- what is told

    public int feed(int a, int b, int c, int d, int e) {
        if (tape.length + 20 > Tape.MOST) {
            return NONE;
        }
        tape.put(a);
        tape.put(b);
        tape.put(c);
        tape.put(d);
        tape.put(e);
        return tape.length;
    }

    public int end(int n) {
        if (n < 0 || n > tape.length) {
            return NONE;
        }
        tape.length = n;
        return n;
    }

    public int castle() {
        castleReader.read();
        int fault = tape.fault;
        tape.length = 0;
        if (fault != 0) {
            return -2 - fault;
        }
        scene.plan = castleReader.takePlan();
        scene.world.begin(scene.plan);
        scene.noteCount = 0;
        pastCount = 0;
        return scene.plan.people;
    }

    public int rule() {
        if (ruleCount >= MOST_RULES) {
            return NONE;
        }
        ruleReader.read(rules[ruleCount]);
        int fault = tape.fault;
        tape.length = 0;
        if (fault != 0) {
            return -2 - fault;
        }
        ruleCount++;
        return ruleCount - 1;
    }

    public int force(int rule) {
        if (rule < NONE || rule >= ruleCount) {
            return -2;
        }
        int before = scene.inForce;
        scene.inForce = rule;
        return before;
    }

    // ---- what is there

    public int person(int person, int what) {
        if (!isPerson(person)) {
            return -2;
        }
        Plan plan = scene.plan;
        World world = scene.world;
        switch (what) {
            case 0: return world.room[person];
            case 1: return world.goal[person];
            case 2: return plan.pay[person];
            case 3: return plan.left(hour(), world.room[person], world.goal[person]);
            case 4: return plan.step(hour(), world.room[person], world.goal[person]);
            case 5: return world.cameIn[person];
            case 6: return world.wentOut[person];
            case 7: return world.letInBy[person];
            default: return -2;
        }
    }

    public int room(int room, int what) {
        if (!isRoom(room)) {
            return NONE;
        }
        switch (what) {
            case 0: return scene.plan.far[room];
            case 1: return scene.world.peopleIn(room, scene.plan.people);
            case 2: return scene.plan.outside(hour(), room);
            default: return NONE;
        }
    }

    public int door(int door, int what) {
        if (!isDoor(door)) {
            return NONE;
        }
        Plan plan = scene.plan;
        switch (what) {
            case 0: return plan.inner[door];
            case 1: return plan.outer[door];
            case 2: return plan.windows >> door & 1;
            case 3: return plan.canPass(hour(), door) ? 1 : 0;
            default: return NONE;
        }
    }

    // ---- acts

    public int moment() {
        if (!hasCastle() || scene.world.moment >= LAST_MOMENT) {
            return NONE;
        }
        remember();
        mover.advance(scene.plan, scene.world, ruleOf(scene.inForce));
        return mover.in + mover.out;
    }

    public int aim(int person, int room) {
        if (!isPerson(person) || !isRoom(room) || scene.world.goal[person] == room) {
            return NONE;
        }
        remember();
        int before = scene.world.goal[person];
        scene.world.goal[person] = room;
        return before;
    }

    public boolean send(int out, int door, int in) {
        if (!isPerson(out) || !isDoor(door) || !scene.plan.canPass(hour(), door)) {
            return false;
        }
        World world = scene.world;
        if (world.room[out] != scene.plan.inner[door]) {
            return false;
        }
        boolean alone = in == NONE;
        if (!alone && (!isPerson(in) || in == out || world.room[in] != scene.plan.outer[door])) {
            return false;
        }
        remember();
        world.goOut(out, scene.plan.outer[door]);
        if (!alone) {
            world.comeIn(in, scene.plan.inner[door], out);
        }
        return true;
    }

    public int undo() {
        if (pastCount == 0) {
            return NONE;
        }
        pastCount--;
        pastNext = (pastNext + MOST_PAST - 1) % MOST_PAST;
        scene.world.copyFrom(past[pastNext]);
        return pastCount;
    }

    // ---- what goes on by moments

    public int ahead(int person, int n) {
        if (!isPerson(person) || n < 0 || n > 100) {
            return NONE;
        }
        trial.copyFrom(scene.world);
        Rule rule = ruleOf(scene.inForce);
        for (int k = 0; k < n; k++) {
            mover.advance(scene.plan, trial, rule);
        }
        return trial.room[person];
    }

    public int comes(int person) {
        if (!isPerson(person)) {
            return NONE;
        }
        trial.copyFrom(scene.world);
        Rule rule = ruleOf(scene.inForce);
        for (int k = 0; k < MOST_LOOKED_AT && trial.room[person] != trial.goal[person]; k++) {
            mover.advance(scene.plan, trial, rule);
        }
        // Whoever comes in the last of these is there at the begin behind it.
        return trial.room[person] == trial.goal[person] ? trial.moment : ABSENT;
    }

    // ---- what passings could do

    public int fewest(int people) {
        if (!isSet(people)) {
            return NONE;
        }
        searchFor(people, NONE);
        return search.rowLength();
    }

    public int passing(int people, int k, int what) {
        if (!isSet(people) || k < 0 || what < 0 || what > 2) {
            return WRONG;
        }
        searchFor(people, NONE);
        if (k >= search.rowLength()) {
            return ABSENT;
        }
        int label = search.labelAt(k);
        if (what == 0) {
            return Passings.outOf(label);
        }
        return what == 1 ? Passings.doorOf(label) : Passings.inOf(label);
    }

    public int caught(int what) {
        if (!hasCastle() || what < 0 || what > 1) {
            return NONE;
        }
        World world = scene.world;
        int people = scene.plan.people;
        search.begin(scene.plan, hour(), people, NONE);
        search.plant(world.packed(people));
        search.exhaust();
        int free = 0;
        for (int p = 0; p < people; p++) {
            int room = what == 0 ? world.goal[p] : world.room[p];
            if (search.everReached(p, room, what == 0)) {
                free |= 1 << p;
            }
        }
        return (1 << people) - 1 - free;
    }

    public int page(int person, int what) {
        if (!isPerson(person) || what < 0 || what > 1) {
            return NONE;
        }
        int people = scene.plan.people;
        int others = scene.world.packed(people);
        search.begin(scene.plan, hour(), people + 1, NONE);
        for (int r = 0; r < scene.plan.rooms; r++) {
            search.plant(Passings.moved(others, people, r));
        }
        search.run(7 << 3 * person, scene.world.goal[person] << 3 * person);
        int length = search.rowLength();
        if (length < 0 || what == 1) {
            return length;
        }
        return Passings.roomOf(search.origin(), people);
    }

    public int price(int person) {
        if (!isPerson(person)) {
            return NONE;
        }
        pricer.begin(scene.plan, hour());
        return pricer.least(scene.world, person);
    }

    public int turned(int door, int people) {
        if (!isDoor(door) || !isSet(people) || !scene.plan.canPass(hour(), door)) {
            return NONE;
        }
        searchFor(people, door);
        return search.rowLength();
    }

    public int swap(int what) {
        if (!hasCastle() || what < 0 || what > 2) {
            return NONE;
        }
        int twos = 0;
        int first = ABSENT;
        int second = ABSENT;
        for (int p = 0; p < scene.plan.people; p++) {
            for (int q = p + 1; q < scene.plan.people; q++) {
                if (isNearerAt(p, q) && isNearerAt(q, p)) {
                    if (twos == 0) {
                        first = p;
                        second = q;
                    }
                    twos++;
                }
            }
        }
        if (what == 0) {
            return twos;
        }
        return what == 1 ? first : second;
    }

    // ---- notes

    public int note(int n, int person, int room) {
        if (n == NONE) {
            scene.noteCount = 0;
            return 0;
        }
        if (n < 0 || n > LAST_NOTED || !isPerson(person) || !isRoom(room)) {
            return -2;
        }
        if (scene.noteCount >= MOST_NOTES) {
            return -2;
        }
        scene.addNote(n, person, room);
        return scene.noteCount;
    }

    public int ruled(int what) {
        if (!hasCastle() || what < 0 || what > 1) {
            return WRONG;
        }
        int fitting = 0;
        int first = ABSENT;
        for (int k = NONE; k < ruleCount; k++) {
            if (fitsNotes(k)) {
                if (fitting == 0) {
                    first = k;
                }
                fitting++;
            }
        }
        return what == 0 ? fitting : first;
    }

    public int look(int n, int what) {
        if (!hasCastle() || n < 0 || n > LAST_NOTED || what < 0 || what > 1) {
            return NONE;
        }
        if (tallyFitting(n) == 0) {
            return ABSENT;
        }
        int best = ABSENT;
        int fewestAlike = ABSENT;
        for (int p = 0; p < scene.plan.people; p++) {
            int alike = mostAlike(p);
            if (best < 0 || alike < fewestAlike) {
                best = p;
                fewestAlike = alike;
            }
        }
        return what == 0 ? best : fewestAlike;
    }

    // ---- draws

    public int seed(int x) {
        if (x < 0) {
            return NONE;
        }
        int before = scene.x;
        scene.x = x;
        return before;
    }

    public int days(int m, int n, int what) {
        if (!hasCastle() || m < 1 || m > 10 || n < 1 || n > 60 || what < 0 || what > 1) {
            return NONE;
        }
        int people = scene.plan.people;
        if (people == 0) {
            return 0;
        }
        Rule rule = ruleOf(scene.inForce);
        int x = scene.x;
        int passed = 0;
        for (int day = 0; day < m; day++) {
            trial.copyFrom(scene.world);
            for (int k = 0; k < n; k++) {
                x = drawn(x);
                int who = (x >> 16) % people;
                x = drawn(x);
                trial.goal[who] = (x >> 16) % scene.plan.rooms;
                mover.advance(scene.plan, trial, rule);
                passed += what == 0 ? mover.in : mover.out;
            }
        }
        return passed;
    }

    // ---- counts and images

    public int count(int what) {
        switch (what) {
            case 0: return scene.plan.rooms;
            case 1: return scene.plan.doors;
            case 2: return scene.plan.people;
            case 3: return ruleCount;
            case 4: return scene.inForce;
            case 5: return scene.world.moment;
            case 6: return hour();
            case 7: return scene.world.total(scene.world.cameIn);
            case 8: return scene.world.total(scene.world.wentOut);
            case 9: return scene.noteCount;
            case 10: return pastCount;
            case 11: return scene.x;
            case 12: return tape.length;
            default: return NONE;
        }
    }

    public int image(int k) {
        if (k < 0 || k >= MOST_IMAGES) {
            return NONE;
        }
        images[k].copyFrom(scene);
        images[k].made = true;
        return scene.world.moment;
    }

    public int back(int k) {
        if (k < 0 || k >= MOST_IMAGES || !images[k].made) {
            return NONE;
        }
        scene.copyFrom(images[k]);
        pastCount = 0;
        return scene.world.moment;
    }

    // ---- helpers

    private boolean hasCastle() {
        return scene.plan.rooms > 0;
    }

    private boolean isPerson(int person) {
        return person >= 0 && person < scene.plan.people;
    }

    private boolean isRoom(int room) {
        return room >= 0 && room < scene.plan.rooms;
    }

    private boolean isDoor(int door) {
        return door >= 0 && door < scene.plan.doors;
    }

    private boolean isSet(int people) {
        return hasCastle() && people >= 0 && people < 1 << scene.plan.people;
    }

    private int hour() {
        return scene.plan.hour(scene.world.moment);
    }

    private Rule ruleOf(int number) {
        return number >= 0 && number < ruleCount ? rules[number] : unruled;
    }

    private void remember() {
        past[pastNext].copyFrom(scene.world);
        pastNext = (pastNext + 1) % MOST_PAST;
        pastCount = Math.min(MOST_PAST, pastCount + 1);
    }

    private void searchFor(int people, int turnedDoor) {
        World world = scene.world;
        int mask = 0;
        int want = 0;
        for (int p = 0; p < scene.plan.people; p++) {
            if ((people >> p & 1) == 1) {
                mask |= 7 << 3 * p;
                want |= world.goal[p] << 3 * p;
            }
        }
        search.begin(scene.plan, hour(), scene.plan.people, turnedDoor);
        search.plant(world.packed(scene.plan.people));
        search.run(mask, want);
    }

    private boolean isNearerAt(int person, int other) {
        World world = scene.world;
        int goal = world.goal[person];
        int here = scene.plan.left(hour(), world.room[person], goal);
        return scene.plan.left(hour(), world.room[other], goal) < here;
    }

    private boolean fitsNotes(int number) {
        Rule rule = ruleOf(number);
        int last = scene.lastNoted();
        trial.begin(scene.plan);
        for (int n = 0; n <= last; n++) {
            if (!scene.notesHold(n, trial)) {
                return false;
            }
            mover.advance(scene.plan, trial, rule);
        }
        return true;
    }

    /** Counts, for each person and room, the fitting rules that have them there at the n-th moment. */
    private int tallyFitting(int n) {
        int fitting = 0;
        Arrays.fill(tally, 0);
        for (int k = NONE; k < ruleCount; k++) {
            if (fitsNotes(k)) {
                fitting++;
                tallyOne(ruleOf(k), n);
            }
        }
        return fitting;
    }

    private void tallyOne(Rule rule, int n) {
        trial.begin(scene.plan);
        for (int i = 0; i < n; i++) {
            mover.advance(scene.plan, trial, rule);
        }
        for (int p = 0; p < scene.plan.people; p++) {
            tally[p * MOST_ROOMS + trial.room[p]]++;
        }
    }

    private int mostAlike(int person) {
        int most = 0;
        for (int r = 0; r < MOST_ROOMS; r++) {
            most = Math.max(most, tally[person * MOST_ROOMS + r]);
        }
        return most;
    }

    private static int drawn(int x) {
        return (int) (x * 1103515245L + 12345L & 2147483647L);
    }

    /** The number of the lowest bit. */
    private static int firstOf(int bits) {
        return Integer.bitCount((bits & -bits) - 1);
    }

    /** The bytes fed so far; read as tokens, with the first fault found along them. */
    private static final class Tape {
        static final int MOST = 400;
        static final int END = 0;
        static final int NUMBER = 1;
        static final int WORD = 2;
        static final int MARK = 3;
        static final int AT_MOST = 256;
        static final int AT_LEAST = 257;
        static final int TOO_LONG = -1;

        static final int MISPLACED = 0;
        static final int BAD_NUMBER = 1;
        static final int TOO_DEEP = 2;
        static final int TOO_MANY_PARTS = 3;
        static final int BAD_CLAUSE = 4;

        final byte[] bytes = new byte[MOST];
        int length;
        int kind;
        int place;
        int stop;
        int value;
        int fault;

        void put(int number) {
            for (int shift = 24; shift >= 0 && length < MOST; shift -= 8) {
                bytes[length] = (byte) (number >> shift);
                length++;
            }
        }

        void open() {
            stop = 0;
            fault = 0;
            next();
        }

        /** The token behind the present one becomes the present one. */
        void next() {
            int at = stop;
            while (at < length && bytes[at] == ' ') {
                at++;
            }
            place = at;
            value = 0;
            if (at >= length) {
                kind = END;
                stop = at;
            } else if (isWithin(bytes[at], '0', '9')) {
                kind = NUMBER;
                stop = behind(at, '0', '9');
                value = stop - at > 5 ? TOO_LONG : numberIn(at, stop);
            } else if (isWithin(bytes[at], 'a', 'z')) {
                kind = WORD;
                stop = behind(at, 'a', 'z');
            } else {
                scanMark(at);
            }
        }

        private static boolean isWithin(int sign, int low, int high) {
            return sign >= low && sign <= high;
        }

        /** The place behind the run of signs from low to high that begins at a place. */
        private int behind(int from, int low, int high) {
            int at = from;
            while (at < length && bytes[at] >= low && bytes[at] <= high) {
                at++;
            }
            return at;
        }

        private int numberIn(int from, int to) {
            int number = 0;
            for (int at = from; at < to; at++) {
                number = number * 10 + bytes[at] - '0';
            }
            return number;
        }

        private void scanMark(int at) {
            kind = MARK;
            value = bytes[at];
            stop = at + 1;
            boolean widens = value == '<' || value == '>';
            if (widens && stop < length && bytes[stop] == '=') {
                value = value == '<' ? AT_MOST : AT_LEAST;
                stop++;
            }
        }

        boolean isWord(String word) {
            if (kind != WORD || stop - place != word.length()) {
                return false;
            }
            for (int k = 0; k < word.length(); k++) {
                if (bytes[place + k] != word.charAt(k)) {
                    return false;
                }
            }
            return true;
        }

        boolean isMark(int mark) {
            return kind == MARK && value == mark;
        }

        void fail(int kindOfFault) {
            if (fault == 0) {
                fault = 1 + 8 * place + kindOfFault;
            }
        }

        /** barred: numbers that can't stand here, as bits. */
        int takeNumber(int low, int high, int barred) {
            if (fault != 0) {
                return low;
            }
            if (kind != NUMBER) {
                fail(MISPLACED);
                return low;
            }
            if (value < low || value > high || value < 31 && (barred >> value & 1) == 1) {
                fail(BAD_NUMBER);
                return low;
            }
            int taken = value;
            next();
            return taken;
        }

        /** Behind a clause: true if another one follows; what can't stand there is a fault. */
        boolean goesOn() {
            if (fault != 0 || kind == END) {
                return false;
            }
            if (!isMark(';')) {
                fail(MISPLACED);
                return false;
            }
            next();
            return true;
        }
    }

    /** Reads a castle from the tape. */
    private static final class CastleReader {
        private static final int MOST_CLAUSES = 40;
        private static final int CASTLE = 0;
        private static final int FAR = 1;
        private static final int DOOR = 2;
        private static final int WINDOW = 3;
        private static final int NIGHT = 4;
        private static final int PERSON = 5;

        private final Tape tape;
        private Plan plan;
        private int clauses;

        CastleReader(Tape tape) {
            this.tape = tape;
            plan = new Plan();
        }

        /** The plan read last; a plan is given away, since images share it. */
        Plan takePlan() {
            Plan taken = plan;
            plan = new Plan();
            return taken;
        }

        /** Without a fault on the tape, the plan is whole then. */
        void read() {
            plan.clear();
            clauses = 0;
            tape.open();
            boolean more = true;
            for (int k = 0; k <= MOST_CLAUSES && more; k++) {
                readClause();
                more = tape.goesOn();
            }
            if (tape.fault == 0) {
                plan.finish();
            }
        }

        private void readClause() {
            int word = clauseWord();
            if (word < 0) {
                tape.fail(Tape.MISPLACED);
                return;
            }
            if (isOutOfPlace(word)) {
                tape.fail(Tape.BAD_CLAUSE);
                return;
            }
            clauses++;
            tape.next();
            if (word == CASTLE) {
                plan.rooms = tape.takeNumber(2, MOST_ROOMS, 0);
            } else if (word == FAR) {
                readFar();
            } else if (word == NIGHT) {
                readNight();
            } else if (word == PERSON) {
                readPerson();
            } else {
                readDoor(word == WINDOW);
            }
        }

        private int clauseWord() {
            if (tape.isWord("castle")) {
                return CASTLE;
            } else if (tape.isWord("far")) {
                return FAR;
            } else if (tape.isWord("door")) {
                return DOOR;
            } else if (tape.isWord("window")) {
                return WINDOW;
            } else if (tape.isWord("night")) {
                return NIGHT;
            }
            return tape.isWord("person") ? PERSON : NONE;
        }

        private boolean isOutOfPlace(int word) {
            if (clauses >= MOST_CLAUSES || (word == CASTLE) != (clauses == 0)) {
                return true;
            }
            if (word == DOOR || word == WINDOW) {
                return plan.doors >= MOST_DOORS;
            }
            if (word == NIGHT) {
                return plan.hasNight();
            }
            return word == PERSON && plan.people >= MOST_PEOPLE;
        }

        private void readFar() {
            int room = tape.takeNumber(0, plan.rooms - 1, 0);
            int far = tape.takeNumber(0, 9, 0);
            if (tape.fault == 0) {
                plan.far[room] = far;
            }
        }

        private void readDoor(boolean window) {
            int one = tape.takeNumber(0, plan.rooms - 1, 0);
            int other = tape.takeNumber(0, plan.rooms - 1, 1 << one | plan.joinedTo(one));
            if (tape.fault == 0) {
                plan.addDoor(one, other, window);
            }
        }

        private void readNight() {
            int first = tape.takeNumber(0, 23, 0);
            int last = tape.takeNumber(first, 23, 0);
            if (tape.fault == 0) {
                plan.nightFirst = first;
                plan.nightLast = last;
            }
        }

        private void readPerson() {
            int room = tape.takeNumber(0, plan.rooms - 1, 0);
            int goal = tape.takeNumber(0, plan.rooms - 1, 0);
            int pay = tape.takeNumber(0, 50, 0);
            if (tape.fault == 0) {
                plan.addPerson(room, goal, pay);
            }
        }
    }

    /** Reads a rule from the tape. */
    private static final class RuleReader {
        private static final int MOST_PARTS = 60;
        private static final int DEEPEST = 10;

        private final Tape tape;
        private Rule made;
        private int parts;

        RuleReader(Tape tape, Rule first) {
            this.tape = tape;
            made = first;
        }

        /** Without a fault on the tape, the rule is whole then. */
        void read(Rule into) {
            made = into;
            made.clear();
            parts = 0;
            tape.open();
            boolean more = true;
            for (int k = 0; k <= Rule.MOST_CLAUSES && more; k++) {
                if (mayGo()) {
                    tape.next();
                    readSum();
                    int sumEnd = made.size;
                    if (takesWord("if")) {
                        readTest(0);
                    }
                    made.addClause(sumEnd);
                }
                more = tape.goesOn();
            }
        }

        private boolean mayGo() {
            if (!tape.isWord("go")) {
                tape.fail(Tape.MISPLACED);
            } else if (made.clauses >= Rule.MOST_CLAUSES) {
                tape.fail(Tape.BAD_CLAUSE);
            }
            return tape.fault == 0;
        }

        /** True, and the word is passed over, if it stands here and there was no fault. */
        private boolean takesWord(String word) {
            boolean taken = tape.fault == 0 && tape.isWord(word);
            if (taken) {
                tape.next();
            }
            return taken;
        }

        private void readTest(int depth) {
            boolean another = true;
            for (int k = 0; k <= MOST_PARTS && another; k++) {
                boolean joins = true;
                for (int j = 0; j <= MOST_PARTS && joins; j++) {
                    readFact(depth);
                    if (j > 0) {
                        made.add(Rule.AND, 0);
                    }
                    joins = takesWord("and");
                }
                if (k > 0) {
                    made.add(Rule.OR, 0);
                }
                another = takesWord("or");
            }
        }

        private void readFact(int depth) {
            boolean negated = tape.isWord("not");
            boolean opens = negated || tape.isMark('[');
            if (opens && depth >= DEEPEST) {
                tape.fail(Tape.TOO_DEEP);
            } else if (negated) {
                tape.next();
                readFact(depth + 1);
                made.add(Rule.NOT, 0);
            } else if (opens) {
                tape.next();
                readTest(depth + 1);
                closeBracket();
            } else {
                readSum();
                int operation = signOperation();
                if (maySign(operation)) {
                    parts++;
                    tape.next();
                    readSum();
                    made.add(operation, 0);
                }
            }
        }

        private void closeBracket() {
            if (tape.fault == 0 && tape.isMark(']')) {
                tape.next();
            } else {
                tape.fail(Tape.MISPLACED);
            }
        }

        private boolean maySign(int operation) {
            if (operation == 0) {
                tape.fail(Tape.MISPLACED);
            } else if (parts >= MOST_PARTS) {
                tape.fail(Tape.TOO_MANY_PARTS);
            }
            return tape.fault == 0;
        }

        private void readSum() {
            int adding = 0;
            boolean another = true;
            for (int k = 0; k <= MOST_PARTS && another; k++) {
                int timing = 0;
                boolean goesOn = true;
                for (int j = 0; j <= MOST_PARTS && goesOn; j++) {
                    readValue();
                    addPending(timing);
                    timing = timesOperation();
                    goesOn = passesOver(timing);
                }
                addPending(adding);
                adding = operationAmong('+', Rule.PLUS, '-', Rule.MINUS);
                another = passesOver(adding);
            }
        }

        private void addPending(int operation) {
            if (operation != 0) {
                made.add(operation, 0);
            }
        }

        /** True, and its mark is passed over, if there is an operation and was no fault. */
        private boolean passesOver(int operation) {
            boolean taken = operation != 0 && tape.fault == 0;
            if (taken) {
                tape.next();
            }
            return taken;
        }

        private void readValue() {
            boolean number = tape.kind == Tape.NUMBER;
            int word = NONE;
            for (int k = 0; k < Rule.WORDS; k++) {
                if (tape.isWord(Rule.wordName(k))) {
                    word = k;
                }
            }
            if (!number && word < 0) {
                tape.fail(Tape.MISPLACED);
            } else if (number && tape.value == Tape.TOO_LONG) {
                tape.fail(Tape.BAD_NUMBER);
            } else if (parts >= MOST_PARTS) {
                tape.fail(Tape.TOO_MANY_PARTS);
            } else if (tape.fault == 0) {
                parts++;
                made.add(number ? Rule.NUMBER : Rule.WORD, number ? tape.value : word);
                tape.next();
            }
        }

        private int timesOperation() {
            int operation = operationAmong('*', Rule.TIMES, '/', Rule.OVER);
            return operation != 0 ? operation : operationAmong('%', Rule.REST, '%', Rule.REST);
        }

        private int operationAmong(int mark, int operation, int otherMark, int otherOperation) {
            if (tape.isMark(mark)) {
                return operation;
            }
            return tape.isMark(otherMark) ? otherOperation : 0;
        }

        private int signOperation() {
            int operation = operationAmong('<', Rule.BELOW, '>', Rule.ABOVE);
            if (operation == 0) {
                operation = operationAmong(Tape.AT_MOST, Rule.AT_MOST, Tape.AT_LEAST, Rule.AT_LEAST);
            }
            return operation != 0 ? operation : operationAmong('=', Rule.SAME, '=', Rule.SAME);
        }
    }

    /** A rule as operations over a stack: of each clause first its sum, then its test. */
    private static final class Rule {
        static final int MOST_CLAUSES = 12;
        static final int NUMBER = 1;
        static final int WORD = 2;
        static final int PLUS = 3;
        static final int MINUS = 4;
        static final int TIMES = 5;
        static final int OVER = 6;
        static final int REST = 7;
        static final int BELOW = 8;
        static final int AT_MOST = 9;
        static final int SAME = 10;
        static final int AT_LEAST = 11;
        static final int ABOVE = 12;
        static final int AND = 13;
        static final int OR = 14;
        static final int NOT = 15;

        /** The words of a person that a value may be, by number. */
        static final int WORDS = 12;
        static final int PERSON = 0;
        static final int ROOM = 1;
        static final int FAR = 2;
        static final int GOAL = 3;
        static final int LEFT = 4;
        static final int PAY = 5;
        static final int MOMENT = 6;
        static final int NIGHT = 7;
        static final int HERE = 8;
        static final int IN = 9;
        static final int OUT = 10;
        static final int ASKED = 11;

        // No operation is told in less than a byte of the tape.
        private static final int MOST_CODE = Tape.MOST;
        private static final int MOST_STACK = 64;

        final int[] code = new int[MOST_CODE];
        final int[] sumEnds = new int[MOST_CLAUSES];
        final int[] testEnds = new int[MOST_CLAUSES];
        final long[] stack = new long[MOST_STACK];
        int size;
        int clauses;

        static String wordName(int word) {
            switch (word) {
                case PERSON: return "person";
                case ROOM: return "room";
                case FAR: return "far";
                case GOAL: return "goal";
                case LEFT: return "left";
                case PAY: return "pay";
                case MOMENT: return "moment";
                case NIGHT: return "night";
                case HERE: return "here";
                case IN: return "in";
                case OUT: return "out";
                default: return "asked";
            }
        }

        void clear() {
            size = 0;
            clauses = 0;
        }

        /** Makes it the rule by which everybody always wills their step. */
        void becomeOne() {
            clear();
            add(NUMBER, 1);
            addClause(size);
        }

        void add(int operation, int argument) {
            if (size < MOST_CODE) {
                code[size] = argument << 4 | operation;
                size++;
            }
        }

        void addClause(int sumEnd) {
            if (clauses < MOST_CLAUSES) {
                sumEnds[clauses] = sumEnd;
                testEnds[clauses] = size;
                clauses++;
            }
        }

        long will(int[] words) {
            int from = 0;
            for (int c = 0; c < clauses; c++) {
                int sumEnd = sumEnds[c];
                int testEnd = testEnds[c];
                if (sumEnd == testEnd || worth(sumEnd, testEnd, words) != 0) {
                    return worth(from, sumEnd, words);
                }
                from = testEnd;
            }
            return 0;
        }

        private long worth(int from, int to, int[] words) {
            int top = 0;
            for (int k = from; k < to && k < MOST_CODE; k++) {
                int operation = code[k] & 15;
                int argument = code[k] >> 4;
                if (operation == NUMBER || operation == WORD) {
                    if (top < MOST_STACK) {
                        stack[top] = operation == NUMBER ? argument : wordAt(words, argument);
                        top++;
                    }
                } else if (operation == NOT) {
                    if (top > 0) {
                        stack[top - 1] = 1 - stack[top - 1];
                    }
                } else if (top > 1) {
                    top--;
                    stack[top - 1] = joined(operation, stack[top - 1], stack[top]);
                }
            }
            return top > 0 ? stack[top - 1] : 0;
        }

        private static long wordAt(int[] words, int word) {
            return word >= 0 && word < words.length ? words[word] : 0;
        }

        private static long joined(int operation, long a, long b) {
            switch (operation) {
                case PLUS: return a + b;
                case MINUS: return a - b;
                case TIMES: return a * b;
                case OVER: return b == 0 ? 0 : a / b;
                case REST: return b == 0 ? 0 : a % b;
                case BELOW: return a < b ? 1 : 0;
                case AT_MOST: return a <= b ? 1 : 0;
                case SAME: return a == b ? 1 : 0;
                case AT_LEAST: return a >= b ? 1 : 0;
                case ABOVE: return a > b ? 1 : 0;
                case AND: return a & b;
                case OR: return a | b;
                default: return 0;
            }
        }
    }

    /**
     * A castle as the text told it; never changed once finished, so images may share it.
     * An hour is 0 by day and 1 by night.
     */
    private static final class Plan {
        int rooms;
        int doors;
        int people;
        int windows;
        int nightFirst;
        int nightLast;
        final int[] far = new int[MOST_ROOMS];
        final int[] inner = new int[MOST_DOORS];
        final int[] outer = new int[MOST_DOORS];
        final int[] firstRoom = new int[MOST_PEOPLE];
        final int[] firstGoal = new int[MOST_PEOPLE];
        final int[] pay = new int[MOST_PEOPLE];
        private final int[] between = new int[MOST_ROOMS * MOST_ROOMS];
        private final int[] passable = new int[2];
        private final int[] outDoors = new int[2 * MOST_ROOMS];
        private final int[] lefts = new int[2 * MOST_ROOMS * MOST_ROOMS];

        Plan() {
            Arrays.fill(between, NONE);
            nightFirst = NONE;
            nightLast = NONE;
        }

        void clear() {
            rooms = 0;
            doors = 0;
            people = 0;
            windows = 0;
            nightFirst = NONE;
            nightLast = NONE;
            Arrays.fill(between, NONE);
            for (int r = 0; r < MOST_ROOMS; r++) {
                far[r] = r;
            }
        }

        boolean hasNight() {
            return nightLast >= 0;
        }

        int joinedTo(int room) {
            int joined = 0;
            for (int r = 0; r < MOST_ROOMS; r++) {
                if (doorBetween(room, r) != NONE) {
                    joined |= 1 << r;
                }
            }
            return joined;
        }

        void addDoor(int one, int other, boolean window) {
            inner[doors] = one;
            outer[doors] = other;
            between[one * MOST_ROOMS + other] = doors;
            between[other * MOST_ROOMS + one] = doors;
            if (window) {
                windows |= 1 << doors;
            }
            doors++;
        }

        void addPerson(int room, int goal, int asks) {
            firstRoom[people] = room;
            firstGoal[people] = goal;
            pay[people] = asks;
            people++;
        }

        /** How far the rooms are is known only at the text's end. */
        void finish() {
            for (int d = 0; d < doors; d++) {
                int one = inner[d];
                int other = outer[d];
                if (far[one] > far[other] || far[one] == far[other] && one > other) {
                    inner[d] = other;
                    outer[d] = one;
                }
            }
            for (int hour = 0; hour < 2; hour++) {
                openDoors(hour);
                measure(hour);
            }
        }

        private void openDoors(int hour) {
            passable[hour] = 0;
            Arrays.fill(outDoors, hour * MOST_ROOMS, (hour + 1) * MOST_ROOMS, 0);
            for (int d = 0; d < doors; d++) {
                boolean open = hour == 1 || (windows >> d & 1) == 0;
                if (open && far[inner[d]] != far[outer[d]]) {
                    passable[hour] |= 1 << d;
                    outDoors[hour * MOST_ROOMS + inner[d]] |= 1 << d;
                }
            }
        }

        private void measure(int hour) {
            for (int a = 0; a < MOST_ROOMS; a++) {
                for (int b = 0; b < MOST_ROOMS; b++) {
                    int beside = isBeside(hour, a, b) ? 1 : NO_WAY;
                    lefts[leftIndex(hour, a, b)] = a == b ? 0 : beside;
                }
            }
            for (int via = 0; via < MOST_ROOMS; via++) {
                for (int a = 0; a < MOST_ROOMS; a++) {
                    for (int b = 0; b < MOST_ROOMS; b++) {
                        int way = left(hour, a, via) + left(hour, via, b);
                        if (way < left(hour, a, b)) {
                            lefts[leftIndex(hour, a, b)] = way;
                        }
                    }
                }
            }
        }

        private static int leftIndex(int hour, int from, int to) {
            return (hour * MOST_ROOMS + from) * MOST_ROOMS + to;
        }

        int hour(int moment) {
            int rest = moment % 24;
            return hasNight() && rest >= nightFirst && rest <= nightLast ? 1 : 0;
        }

        int doorBetween(int one, int other) {
            return between[one * MOST_ROOMS + other];
        }

        boolean canPass(int hour, int door) {
            return (passable[hour] >> door & 1) == 1;
        }

        private boolean isBeside(int hour, int one, int other) {
            int door = doorBetween(one, other);
            return door != NONE && canPass(hour, door);
        }

        /** The doors open now that lead out from a room, as bits. */
        int doorsOut(int hour, int room) {
            return outDoors[hour * MOST_ROOMS + room];
        }

        int left(int hour, int from, int to) {
            return lefts[leftIndex(hour, from, to)];
        }

        int step(int hour, int from, int goal) {
            if (from == goal) {
                return NONE;
            }
            int best = NONE;
            int fewestLeft = NO_WAY;
            for (int r = 0; r < rooms; r++) {
                if (isBeside(hour, from, r) && left(hour, r, goal) < fewestLeft) {
                    best = r;
                    fewestLeft = left(hour, r, goal);
                }
            }
            return best;
        }

        int outside(int hour, int room) {
            int seen = 1 << room;
            for (int round = 0; round < MOST_ROOMS; round++) {
                for (int d = 0; d < doors; d++) {
                    if (canPass(hour, d) && (seen >> inner[d] & 1) == 1) {
                        seen |= 1 << outer[d];
                    }
                }
            }
            return seen & ~(1 << room);
        }
    }

    /** Where people are, and what has happened to them. */
    private static final class World {
        final int[] room = new int[MOST_PEOPLE];
        final int[] goal = new int[MOST_PEOPLE];
        final int[] cameIn = new int[MOST_PEOPLE];
        final int[] wentOut = new int[MOST_PEOPLE];
        final int[] letInBy = new int[MOST_PEOPLE];
        int moment;

        void begin(Plan plan) {
            System.arraycopy(plan.firstRoom, 0, room, 0, MOST_PEOPLE);
            System.arraycopy(plan.firstGoal, 0, goal, 0, MOST_PEOPLE);
            Arrays.fill(cameIn, 0);
            Arrays.fill(wentOut, 0);
            Arrays.fill(letInBy, NONE);
            moment = 0;
        }

        void copyFrom(World other) {
            System.arraycopy(other.room, 0, room, 0, MOST_PEOPLE);
            System.arraycopy(other.goal, 0, goal, 0, MOST_PEOPLE);
            System.arraycopy(other.cameIn, 0, cameIn, 0, MOST_PEOPLE);
            System.arraycopy(other.wentOut, 0, wentOut, 0, MOST_PEOPLE);
            System.arraycopy(other.letInBy, 0, letInBy, 0, MOST_PEOPLE);
            moment = other.moment;
        }

        void goOut(int person, int to) {
            room[person] = to;
            wentOut[person]++;
        }

        void comeIn(int person, int to, int by) {
            room[person] = to;
            cameIn[person]++;
            letInBy[person] = by;
        }

        int peopleIn(int where, int people) {
            int bits = 0;
            for (int p = 0; p < people; p++) {
                if (room[p] == where) {
                    bits |= 1 << p;
                }
            }
            return bits;
        }

        int total(int[] counts) {
            int sum = 0;
            for (int p = 0; p < counts.length; p++) {
                sum += counts[p];
            }
            return sum;
        }

        /** Everybody's room, three bits each. */
        int packed(int people) {
            int state = 0;
            for (int p = 0; p < people; p++) {
                state |= room[p] << 3 * p;
            }
            return state;
        }
    }

    /** All that an image holds: all but the tape and the rules. */
    private static final class Scene {
        Plan plan;
        final World world = new World();
        int inForce = NONE;
        int x;
        int noteCount;
        boolean made;
        private final int[] noteMoment = new int[MOST_NOTES];
        private final int[] notePerson = new int[MOST_NOTES];
        private final int[] noteRoom = new int[MOST_NOTES];

        Scene(Plan plan) {
            this.plan = plan;
        }

        void copyFrom(Scene other) {
            plan = other.plan;
            world.copyFrom(other.world);
            inForce = other.inForce;
            x = other.x;
            noteCount = other.noteCount;
            System.arraycopy(other.noteMoment, 0, noteMoment, 0, MOST_NOTES);
            System.arraycopy(other.notePerson, 0, notePerson, 0, MOST_NOTES);
            System.arraycopy(other.noteRoom, 0, noteRoom, 0, MOST_NOTES);
        }

        void addNote(int n, int who, int where) {
            noteMoment[noteCount] = n;
            notePerson[noteCount] = who;
            noteRoom[noteCount] = where;
            noteCount++;
        }

        int lastNoted() {
            int last = NONE;
            for (int k = 0; k < noteCount; k++) {
                last = Math.max(last, noteMoment[k]);
            }
            return last;
        }

        boolean notesHold(int n, World at) {
            for (int k = 0; k < noteCount; k++) {
                if (noteMoment[k] == n && at.room[notePerson[k]] != noteRoom[k]) {
                    return false;
                }
            }
            return true;
        }
    }

    /** Lets moments go by. */
    private static final class Mover {
        private final int[] steps = new int[MOST_PEOPLE];
        private final int[] targets = new int[MOST_PEOPLE];
        private final int[] outBy = new int[MOST_PEOPLE];
        private final int[] inBy = new int[MOST_PEOPLE];
        private final int[] words = new int[Rule.WORDS];
        int in;
        int out;

        void advance(Plan plan, World world, Rule rule) {
            int hour = plan.hour(world.moment);
            in = 0;
            out = 0;
            for (int p = 0; p < plan.people; p++) {
                steps[p] = plan.step(hour, world.room[p], world.goal[p]);
            }
            for (int p = 0; p < plan.people; p++) {
                tellWords(plan, world, p);
                targets[p] = target(plan, world, p, rule.will(words));
            }
            for (int p = 0; p < plan.people; p++) {
                findDoor(plan, world, p);
            }
            goOut(plan, world);
            comeIn(plan, world);
            world.moment = Math.min(LAST_MOMENT, world.moment + 1);
        }

        private void tellWords(Plan plan, World world, int p) {
            int hour = plan.hour(world.moment);
            int room = world.room[p];
            int here = 0;
            int asked = 0;
            for (int q = 0; q < plan.people; q++) {
                if (q != p && world.room[q] == room) {
                    here++;
                }
                if (q != p && steps[q] == room && plan.far[world.room[q]] > plan.far[room]) {
                    asked++;
                }
            }
            words[Rule.PERSON] = p;
            words[Rule.ROOM] = room;
            words[Rule.FAR] = plan.far[room];
            words[Rule.GOAL] = world.goal[p];
            words[Rule.LEFT] = plan.left(hour, room, world.goal[p]);
            words[Rule.PAY] = plan.pay[p];
            words[Rule.MOMENT] = world.moment;
            words[Rule.NIGHT] = hour;
            words[Rule.HERE] = here;
            words[Rule.IN] = world.cameIn[p];
            words[Rule.OUT] = world.wentOut[p];
            words[Rule.ASKED] = asked;
        }

        /** The room into which a person wills to go, or NONE. */
        private int target(Plan plan, World world, int p, long will) {
            if (will > 0) {
                return steps[p];
            }
            int doors = plan.doorsOut(plan.hour(world.moment), world.room[p]);
            return will < 0 && doors != 0 ? plan.outer[firstOf(doors)] : NONE;
        }

        private void findDoor(Plan plan, World world, int p) {
            outBy[p] = NONE;
            inBy[p] = NONE;
            if (targets[p] == NONE) {
                return;
            }
            int door = plan.doorBetween(world.room[p], targets[p]);
            if (door != NONE && plan.inner[door] == world.room[p]) {
                outBy[p] = door;
            } else {
                inBy[p] = door;
            }
        }

        private void goOut(Plan plan, World world) {
            for (int p = 0; p < plan.people; p++) {
                if (outBy[p] != NONE) {
                    world.goOut(p, plan.outer[outBy[p]]);
                    out++;
                }
            }
        }

        /** Each comes in by the first who goes out through their door and has let in nobody yet. */
        private void comeIn(Plan plan, World world) {
            for (int p = 0; p < plan.people; p++) {
                int by = inBy[p] == NONE ? NONE : takeOpener(plan.people, inBy[p]);
                if (by != NONE) {
                    world.comeIn(p, plan.inner[inBy[p]], by);
                    in++;
                }
            }
        }

        private int takeOpener(int people, int door) {
            for (int p = 0; p < people; p++) {
                if (outBy[p] == door) {
                    outBy[p] = NONE;
                    return p;
                }
            }
            return NONE;
        }
    }

    /**
     * All passings from a state, which is everybody's room, three bits each; the doors stay as at one hour.
     * A label tells who goes out, the door, who comes in.
     */
    private abstract static class Passings {
        Plan plan;
        int hour;
        int movers;
        private int turnedDoor;

        Passings(Plan plan) {
            this.plan = plan;
            turnedDoor = NONE;
        }

        void prepare(Plan of, int at, int people, int inwardDoor) {
            plan = of;
            hour = at;
            movers = people;
            turnedDoor = inwardDoor;
        }

        abstract void reach(int state, int from, int label);

        int states() {
            return 1 << 3 * movers;
        }

        static int roomOf(int state, int mover) {
            return state >> 3 * mover & 7;
        }

        static int moved(int state, int mover, int to) {
            return state & ~(7 << 3 * mover) | to << 3 * mover;
        }

        private static int labelOf(int out, int door, int in) {
            return out | door << 3 | in + 1 << 7;
        }

        static int outOf(int label) {
            return label & 7;
        }

        static int doorOf(int label) {
            return label >> 3 & 15;
        }

        static int inOf(int label) {
            return (label >> 7 & 7) - 1;
        }

        /** In the order of the first row: by who goes out, then the door, then who comes in. */
        void spread(int state) {
            for (int p = 0; p < movers; p++) {
                int doors = plan.doorsOut(hour, roomOf(state, p));
                for (int k = 0; k < MOST_DOORS && doors != 0; k++) {
                    passOut(state, p, firstOf(doors));
                    doors &= doors - 1;
                }
            }
            if (turnedDoor != NONE) {
                comeInAlone(state);
            }
        }

        private void passOut(int state, int p, int door) {
            int gone = moved(state, p, plan.outer[door]);
            reach(gone, state, labelOf(p, door, NONE));
            for (int q = 0; q < movers; q++) {
                if (q != p && roomOf(state, q) == plan.outer[door]) {
                    reach(moved(gone, q, plan.inner[door]), state, labelOf(p, door, q));
                }
            }
        }

        private void comeInAlone(int state) {
            for (int q = 0; q < movers; q++) {
                if (roomOf(state, q) == plan.outer[turnedDoor]) {
                    reach(moved(state, q, plan.inner[turnedDoor]), state, labelOf(q, turnedDoor, q));
                }
            }
        }
    }

    /**
     * Looks for the fewest passings. States come in the order of their first rows,
     * so the first state found that is wanted ends the first of the shortest rows.
     */
    private static final class Search extends Passings {
        // A page makes one mover more than there are people.
        private static final int MOST_STATES = 1 << 3 * (MOST_PEOPLE + 1);
        private static final int SEEN = 1 << 25;
        private static final int PLANTED = 1 << 26;

        // Most castles need few states: these grow to the most that was asked for.
        private int[] marks = new int[1];
        private int[] queue = new int[1];
        private int tail;
        private int found;

        Search(Plan plan) {
            super(plan);
            found = NONE;
        }

        void begin(Plan of, int at, int people, int inwardDoor) {
            prepare(of, at, people, inwardDoor);
            for (int k = 0; k < tail; k++) {
                marks[queue[k]] = 0;
            }
            tail = 0;
            found = NONE;
            if (marks.length < states()) {
                marks = new int[states()];
                queue = new int[states()];
            }
        }

        /** A state from which the search begins. */
        void plant(int state) {
            keep(state, PLANTED);
        }

        private void keep(int state, int mark) {
            if (state >= 0 && state < marks.length && marks[state] == 0 && tail < queue.length) {
                marks[state] = mark;
                queue[tail] = state;
                tail++;
            }
        }

        void reach(int state, int from, int label) {
            keep(state, SEEN | label << 15 | from);
        }

        /** Looks for the first state whose bits in the mask are the wanted ones. */
        void run(int mask, int want) {
            for (int head = 0; head < tail && head < queue.length; head++) {
                if ((queue[head] & mask) == want) {
                    found = queue[head];
                    return;
                }
                spread(queue[head]);
            }
        }

        void exhaust() {
            for (int head = 0; head < tail && head < queue.length; head++) {
                spread(queue[head]);
            }
        }

        /** Whether a mover was in a room (or, if not within, in another) in any state reached. */
        boolean everReached(int mover, int room, boolean within) {
            for (int k = 0; k < tail; k++) {
                if ((roomOf(queue[k], mover) == room) == within) {
                    return true;
                }
            }
            return false;
        }

        int rowLength() {
            if (found == NONE) {
                return ABSENT;
            }
            int length = 0;
            int state = found;
            for (int k = 0; k < tail && (marks[state] & PLANTED) == 0; k++) {
                state = marks[state] & MOST_STATES - 1;
                length++;
            }
            return length;
        }

        /** The state k passings ahead of the one found. */
        private int before(int k) {
            int state = found;
            for (int i = 0; i < k; i++) {
                state = marks[state] & MOST_STATES - 1;
            }
            return state;
        }

        int labelAt(int k) {
            return marks[before(rowLength() - 1 - k)] >> 15 & 1023;
        }

        int origin() {
            return before(rowLength());
        }
    }

    /** Looks for the least pay; states wait in rows by what they cost. */
    private static final class Pricer extends Passings {
        // Of states that wait, none costs over 50 more than the one that is looked at.
        private static final int ROWS = 51;
        private static final int UNSEEN = 2147483647;

        private int[] costs = new int[1];
        private int[] next = new int[1];
        private int[] before = new int[1];
        private final int[] first = new int[ROWS];
        private int payer;
        private int waiting;

        Pricer(Plan plan) {
            super(plan);
        }

        void begin(Plan of, int at) {
            prepare(of, at, of.people, NONE);
            if (costs.length < states()) {
                costs = new int[states()];
                next = new int[states()];
                before = new int[states()];
            }
        }

        int least(World world, int person) {
            Arrays.fill(costs, UNSEEN);
            Arrays.fill(first, NONE);
            payer = person;
            waiting = 0;
            await(world.packed(movers), 0);
            for (int cost = 0; cost < states() * ROWS && waiting > 0; cost++) {
                if (settle(cost, world.goal[person])) {
                    return cost;
                }
            }
            return ABSENT;
        }

        /** Looks at all states of one cost: true if the payer is at the goal in one. */
        private boolean settle(int cost, int goal) {
            int row = cost % ROWS;
            for (int k = 0; k < states() && first[row] != NONE; k++) {
                int state = first[row];
                leaveRow(state);
                if (roomOf(state, payer) == goal) {
                    return true;
                }
                spread(state);
            }
            return false;
        }

        void reach(int state, int from, int label) {
            int out = outOf(label);
            await(state, costs[from] + (out == payer ? 0 : plan.pay[out]));
        }

        private void await(int state, int cost) {
            if (state < 0 || state >= costs.length || cost >= costs[state]) {
                return;
            }
            if (costs[state] != UNSEEN) {
                leaveRow(state);
            }
            costs[state] = cost;
            int row = cost % ROWS;
            next[state] = first[row];
            before[state] = NONE;
            if (first[row] != NONE) {
                before[first[row]] = state;
            }
            first[row] = state;
            waiting++;
        }

        private void leaveRow(int state) {
            if (before[state] == NONE) {
                first[costs[state] % ROWS] = next[state];
            } else {
                next[before[state]] = next[state];
            }
            if (next[state] != NONE) {
                before[next[state]] = before[state];
            }
            waiting--;
        }
    }
}
