import java.util.function.ToIntFunction;

/** Edges that the promises themselves name: what is refused, and what each answer is then. */
final class PromiseEdges {
    private static final String ROW = "castle 3;door 0 1;door 1 2;person 2 0 5;person 0 2 7";
    private static final int LOW = -2147483648;
    private static final int HIGH = 2147483647;

    private PromiseEdges() {
    }

    static void tell(Edges e) {
        e.promise(1, "No CASTLE, no RULES, none IN FORCE.", PromiseEdges::newObject);
        e.promise(1, "No CASTLE, no RULES, none IN FORCE.", PromiseEdges::nothingSharedByObjects);
        e.promise(2, "Twenty bytes come behind the TAPE,", PromiseEdges::twentyBytes);
        e.promise(2, "of each number the highest first:", PromiseEdges::highestFirst);
        e.promise(2, "NONE, and none comes, if it would have more than 400.", PromiseEdges::tapeFull);
        e.promise(3, "The TAPE has its first n bytes alone: n;", PromiseEdges::firstBytesAlone);
        e.promise(3, "NONE, and nothing happens, if it has not so many, or n is below 0.", PromiseEdges::endRefused);
        e.promise(4, "The TAPE, which is empty then,", PromiseEdges::tapeBehindCastle);
        e.promise(4, "(MOMENT 0, no NOTES, nothing to be UNDONE; the RULE IN FORCE and x stay)", PromiseEdges::nextCastle);
        e.promise(4, "how many PEOPLE;", PromiseEdges::castleOfPeople);
        e.promise(4, "-2 - its FAULT, and all stays.", PromiseEdges::allStaysByFault);
        e.promise(4, "-2 - its FAULT, and all stays.", PromiseEdges::castleBehindFault);
        e.promise(5, "The TAPE, which is empty then, is a RULE: its number;", PromiseEdges::tapeBehindRule);
        e.promise(5, "-2 - its FAULT;", PromiseEdges::faultOfRule);
        e.promise(5, "-2 - its FAULT;", PromiseEdges::ruleBehindFault);
        e.promise(5, "NONE, and nothing happens: there are 6.", PromiseEdges::seventhRule);
        e.promise(6, "A RULE is IN FORCE (NONE: none): which was;", PromiseEdges::whichWasInForce);
        e.promise(6, "-2, and nothing happens, if there is none such.", PromiseEdges::forceRefused);
        e.promise(7, "4: their STEP (NONE),", PromiseEdges::stepOrNone);
        e.promise(7, "7: who let them in last (NONE: nobody did).", PromiseEdges::letInLast);
        e.promise(7, "-2 without these.", PromiseEdges::personRefused);
        e.promise(8, "1: who is in it, as bits,", PromiseEdges::whoIsInRoom);
        e.promise(8, "NONE without these.", PromiseEdges::roomRefused);
        e.promise(9, "0: the ROOM less far (of two as FAR the lesser number),", PromiseEdges::roomsOfDoor);
        e.promise(9, "3: 1 if it is open now, and can be passed, else 0.", PromiseEdges::openNow);
        e.promise(9, "NONE without these.", PromiseEdges::doorRefused);
        e.promise(10, "how many passed a door (in or out);", PromiseEdges::howManyPassed);
        e.promise(10, "NONE, and nothing happens, without a CASTLE,", PromiseEdges::momentWithoutCastle);
        e.promise(10, "or at MOMENT 999.", PromiseEdges::momentAtTheLast);
        e.promise(11, "the GOAL it was;", PromiseEdges::goalItWas);
        e.promise(11, "NONE, and nothing happens, without these, or if it is so.", PromiseEdges::aimRefused);
        e.promise(12, "(who comes in NONE: nobody): true;", PromiseEdges::nobodyComesIn);
        e.promise(12, "false, and nothing happens, if that PASSING can't be.", PromiseEdges::sendRefused);
        e.promise(13, "how many more can be;", PromiseEdges::howManyMore);
        e.promise(13, "NONE, and nothing happens: none can.", PromiseEdges::undoRefused);
        e.promise(14, "NONE without these.", PromiseEdges::aheadRefused);
        e.promise(15, "-2: not in 200 MOMENTS;", PromiseEdges::notIn200);
        e.promise(15, "NONE without that PERSON.", PromiseEdges::comesRefused);
        e.promise(16, "-2: they can't;", PromiseEdges::fewestCanNot);
        e.promise(16, "NONE without these, or a CASTLE.", PromiseEdges::fewestRefused);
        e.promise(17, "The k-th PASSING (0 and on)", PromiseEdges::firstAndLastPassing);
        e.promise(17, "-2: so many there are not.", PromiseEdges::notSoMany);
        e.promise(17, "-3 without these, or a CASTLE.", PromiseEdges::passingRefused);
        e.promise(18, "NONE for others, or without a CASTLE.", PromiseEdges::caughtRefused);
        e.promise(19, "-2: by none.", PromiseEdges::pageByNone);
        e.promise(19, "NONE without these.", PromiseEdges::pageRefused);
        e.promise(20, "-2: they can't come there;", PromiseEdges::priceCanNot);
        e.promise(20, "NONE without that PERSON.", PromiseEdges::priceRefused);
        e.promise(21, "-2: they can't;", PromiseEdges::turnedCanNot);
        e.promise(21, "NONE without these (a door open now that can be passed).", PromiseEdges::turnedRefused);
        e.promise(22, "(by the lesser; -2: there is none).", PromiseEdges::swapNone);
        e.promise(22, "NONE for others, or without a CASTLE.", PromiseEdges::swapRefused);
        e.promise(23, "(n NONE: there are none then, 0)", PromiseEdges::notesNone);
        e.promise(23, "-2, and nothing happens, without these, or if there are 10.", PromiseEdges::noteRefused);
        e.promise(24, "1: the first (NONE: none; -2: there is none such).", PromiseEdges::ruledNoneSuch);
        e.promise(24, "-3 for others, or without a CASTLE.", PromiseEdges::ruledRefused);
        e.promise(25, "-2: no RULE is so, or there are no PEOPLE.", PromiseEdges::lookNone);
        e.promise(25, "NONE without these, or a CASTLE.", PromiseEdges::lookRefused);
        e.promise(26, "what it was;", PromiseEdges::seedWas);
        e.promise(26, "NONE, and nothing happens, below 0.", PromiseEdges::seedRefused);
        e.promise(27, "NONE without these, or a CASTLE.", PromiseEdges::daysRefused);
        e.promise(28, "4: the RULE IN FORCE (NONE),", PromiseEdges::countInForce);
        e.promise(28, "7: how often somebody came in so far, 8: went out,", PromiseEdges::countInAndOut);
        e.promise(28, "NONE for others.", PromiseEdges::countRefused);
        e.promise(29, "An IMAGE is made: MOMENT; NONE without it.", PromiseEdges::imageRefused);
        e.promise(30, "NONE, and nothing happens, if it was never made, or without it.", PromiseEdges::backRefused);
    }

    /** One who has passed doors, been noted, and can be undone. */
    private static OutwardDoors lived() {
        OutwardDoors x = Check.with(ROW, "go 1", "go 0");
        x.force(0);
        x.seed(41);
        x.note(0, 0, 2);
        x.moment();
        x.moment();
        x.aim(1, 1);
        return x;
    }

    private static void refuses(OutwardDoors x, int answer, String call, ToIntFunction<OutwardDoors> made) {
        Check.nothingHappens(x, call, made, answer);
    }

    private static void newObject() {
        OutwardDoors x = new OutwardDoors();
        int[] due = {0, 0, 0, 0, -1, 0, 0, 0, 0, 0, 0, 0, 0};
        for (int what = 0; what < due.length; what++) {
            Check.due("count " + what, x.count(what), due[what]);
        }
        Check.due("no rule to force", x.force(0), -2);
        Check.due("none in force", x.force(-1), -1);
        Check.due("the first rule", Check.rule(x, "go 1"), 0);
    }

    private static void nothingSharedByObjects() {
        OutwardDoors x = lived();
        OutwardDoors y = new OutwardDoors();
        Check.due("no castle", y.count(0), 0);
        Check.due("no rules", y.count(3), 0);
        Check.due("no x", y.count(11), 0);
        Check.castle(y, "castle 8");
        y.seed(3);
        Check.due("the other's castle", x.count(0), 3);
        Check.due("the other's x", x.count(11), 41);
    }

    private static void twentyBytes() {
        OutwardDoors x = new OutwardDoors();
        for (int k = 1; k <= 20; k++) {
            Check.due("feed", x.feed(LOW, HIGH, -1, 0, k), 20 * k);
            Check.due("bytes", x.count(12), 20 * k);
        }
        x.end(7);
        Check.due("behind seven", x.feed(0, 0, 0, 0, 0), 27);
    }

    private static void highestFirst() {
        OutwardDoors x = new OutwardDoors();
        x.feed(0x63617374, 0x6c652032, 0x3b666172, 0x20312037, 0x3b646f6f);
        x.feed(0x72203120, 0x303b7065, 0x72736f6e, 0x20302031, 0x20323520);
        Check.due("castle 2;far 1 7;door 1 0;person 0 1 25", x.castle(), 1);
        Check.due("far of 1", x.room(1, 0), 7);
        Check.due("pay", x.person(0, 2), 25);
        OutwardDoors y = new OutwardDoors();
        y.feed(0x63617374, 0x6c65ffff, 0, 0, 0);
        Check.due("a byte above 127", y.castle(), Check.fault(6, 0));
    }

    private static void tapeFull() {
        OutwardDoors x = new OutwardDoors();
        Check.tell(x, "castle 3" + " ".repeat(392));
        Check.due("at 400", x.feed(0, 0, 0, 0, 0), -1);
        Check.due("still 400", x.count(12), 400);
        x.end(381);
        Check.due("at 381", x.feed(0, 0, 0, 0, 0), -1);
        Check.due("still 381", x.count(12), 381);
        Check.due("none came", x.castle(), 0);
        Check.tell(x, " ".repeat(380));
        Check.due("at 380", x.feed(0x63617374, 0x6c652034, 0x20202020, 0x20202020, 0x20202020), 400);
        Check.due("the last twenty came", x.castle(), 0);
        Check.due("rooms", x.count(0), 4);
    }

    private static void firstBytesAlone() {
        OutwardDoors x = new OutwardDoors();
        Check.tell(x, "castle 2;far 0 5");
        Check.due("at its length", x.end(16), 16);
        Check.due("shorter", x.end(8), 8);
        Check.due("read so", x.castle(), 0);
        Check.due("without far", x.room(0, 0), 0);
        Check.tell(x, "castle 2;far 0 12");
        x.end(16);
        Check.due("digits cut off", x.castle(), 0);
        Check.due("far", x.room(0, 0), 1);
        Check.tell(x, "go 1 if 1<=2");
        x.end(10);
        Check.due("a sign cut off", x.rule(), Check.fault(10, 0));
        Check.tell(x, "go heres");
        x.end(7);
        Check.due("letters cut off", x.rule(), 0);
        Check.tell(x, "castle    ");
        x.end(7);
        Check.due("blanks cut off", x.castle(), Check.fault(7, 0));
        Check.due("none of none", x.end(0), 0);
        x.feed(0, 0, 0, 0, 0);
        Check.due("none of twenty", x.end(0), 0);
        Check.due("bytes", x.count(12), 0);
        for (int k = 0; k < 20; k++) {
            x.feed(0, 0, 0, 0, 0);
        }
        Check.due("400", x.end(400), 400);
    }

    private static void endRefused() {
        OutwardDoors x = lived();
        refuses(x, -1, "end 1 of none", y -> y.end(1));
        x.feed(0, 0, 0, 0, 0);
        refuses(x, -1, "end 21", y -> y.end(21));
        refuses(x, -1, "end -1", y -> y.end(-1));
        refuses(x, -1, "end LOW", y -> y.end(LOW));
        refuses(x, -1, "end HIGH", y -> y.end(HIGH));
        Check.due("20", x.end(20), 20);
    }

    private static void tapeBehindCastle() {
        OutwardDoors x = new OutwardDoors();
        Check.castle(x, "castle 2");
        Check.due("empty", x.count(12), 0);
        Check.due("an empty tape is none", x.castle(), -3);
        Check.due("the castle stays", x.count(0), 2);
        Check.castle(x, "castle 1");
        Check.due("empty behind a fault", x.count(12), 0);
    }

    private static void nextCastle() {
        OutwardDoors x = lived();
        Check.due("castle", Check.castle(x, "castle 4;door 2 3;person 1 1 1"), 1);
        int[] due = {4, 1, 1, 2, 0, 0, 0, 0, 0, 0, 0, 41, 0};
        for (int what = 0; what < due.length; what++) {
            Check.due("count " + what, x.count(what), due[what]);
        }
        Check.due("undo", x.undo(), -1);
        Check.due("nobody let them in", x.person(0, 7), -1);
        x.moment();
        Check.due("an act of the new one", x.undo(), 0);
        Check.due("no more", x.undo(), -1);
    }

    private static void castleOfPeople() {
        for (int people = 0; people <= 4; people++) {
            Check.due("people", Check.castle(new OutwardDoors(), "castle 2" + ";person 0 0 0".repeat(people)), people);
        }
    }

    private static void allStaysByFault() {
        OutwardDoors x = lived();
        refuses(x, Check.fault(9, 0), "castle", y -> Check.castle(y, "castle 8;"));
        refuses(x, Check.fault(7, 1), "castle", y -> Check.castle(y, "castle 9;person 0 0 0"));
        refuses(x, Check.fault(0, 0), "castle", y -> y.castle());
        String late = "castle 2;door 0 1;far 0 9;night 0 23;person 1 1 1";
        refuses(x, Check.fault(late.length() + 1, 4), "castle", y -> Check.castle(y, late + ";castle 3"));
        Check.due("undo", x.undo(), 2);
    }

    /** Nothing of a castle with a fault comes into the next one. */
    private static void castleBehindFault() {
        OutwardDoors x = new OutwardDoors();
        Check.castle(x, "castle 8;far 0 9;far 1 0;window 0 1;door 2 1;night 0 23;person 0 0 0;person 7 7 7;x");
        Check.due("the next one", Check.castle(x, "castle 3;door 0 1;door 2 1;person 0 1 5"), 1);
        int[] due = {3, 2, 1, 0, -1, 0, 0};
        for (int what = 0; what < due.length; what++) {
            Check.due("count " + what, x.count(what), due[what]);
        }
        Check.due("far of 0", x.room(0, 0), 0);
        Check.due("far of 1", x.room(1, 0), 1);
        Check.due("no window", x.door(0, 2), 0);
        Check.castle(x, "castle 2;night 0 23;x");
        Check.due("a night of its own", Check.castle(x, "castle 2;night 1 1"), 0);
        Check.due("day", x.count(6), 0);
        Check.castle(x, "castle 8" + ";person 0 0 0".repeat(5));
        Check.castle(x, CastleEdges.doors(14) + ";door 6 7");
        Check.due("doors and people of its own", Check.castle(x, CastleEdges.doors(14) + ";person 0 0 0"), 1);
        Check.due("doors", x.count(1), 14);
    }

    private static void tapeBehindRule() {
        OutwardDoors x = new OutwardDoors();
        for (int k = 0; k < 6; k++) {
            Check.due("number", Check.rule(x, "go 1"), k);
            Check.due("empty", x.count(12), 0);
        }
    }

    private static void faultOfRule() {
        OutwardDoors x = lived();
        refuses(x, Check.fault(0, 0), "an empty rule", y -> y.rule());
        refuses(x, Check.fault(3, 0), "rule", y -> Check.rule(y, "go x"));
        refuses(x, Check.fault(3, 1), "rule", y -> Check.rule(y, "go 111111"));
        Check.due("empty behind a fault", x.count(12), 0);
        Check.due("the next number", Check.rule(x, "go 1"), 2);
    }

    /** Nothing of a rule with a fault comes into the next one. */
    private static void ruleBehindFault() {
        OutwardDoors x = Check.with("castle 2;door 0 1;person 0 1 0");
        Check.rule(x, "go 1;go 1;x");
        Check.due("the next one", Check.rule(x, "go 1 if 1 = 0"), 0);
        x.force(0);
        Check.due("by the next one", x.moment(), 0);
        for (int k = 0; k < 12; k++) {
            Check.rule(x, "go 1" + ";go 0".repeat(11) + ";x");
            Check.rule(x, "go 0" + "+0".repeat(59) + " if x");
        }
        Check.due("one more", Check.rule(x, "go 1" + "-0".repeat(59)), 1);
        x.force(1);
        Check.due("by that one", x.moment(), 1);
    }

    private static void seventhRule() {
        OutwardDoors x = Check.with(ROW, "go 1", "go 1", "go 1", "go 1", "go 1", "go 1");
        refuses(x, -1, "a seventh of nothing", y -> y.rule());
        Check.tell(x, "castle 2");
        refuses(x, -1, "a seventh", y -> y.rule());
        Check.due("the tape is as it was", x.castle(), 0);
        Check.due("rooms", x.count(0), 2);
    }

    private static void whichWasInForce() {
        OutwardDoors x = new OutwardDoors();
        for (int k = 0; k < 6; k++) {
            Check.rule(x, "go 1");
        }
        Check.due("none was", x.force(5), -1);
        Check.due("5 was", x.force(0), 5);
        Check.due("0 was", x.force(0), 0);
        Check.due("0 was", x.force(-1), 0);
        Check.due("none was", x.force(-1), -1);
    }

    private static void forceRefused() {
        OutwardDoors x = lived();
        refuses(x, -2, "force 2", y -> y.force(2));
        refuses(x, -2, "force -2", y -> y.force(-2));
        refuses(x, -2, "force LOW", y -> y.force(LOW));
        refuses(x, -2, "force HIGH", y -> y.force(HIGH));
        OutwardDoors six = Check.with(ROW, "go 1", "go 1", "go 1", "go 1", "go 1", "go 1");
        refuses(six, -2, "force 6", y -> y.force(6));
        refuses(new OutwardDoors(), -2, "force 0 of none", y -> y.force(0));
    }

    private static void stepOrNone() {
        OutwardDoors x = Check.with("castle 3;door 0 1;person 1 0 0;person 0 0 0;person 0 2 0");
        Check.due("room 0 is a step", x.person(0, 4), 0);
        Check.due("none at the goal", x.person(1, 4), -1);
        Check.due("none without a way", x.person(2, 4), -1);
    }

    private static void letInLast() {
        OutwardDoors x = Check.with("castle 3;door 0 1;door 1 2;person 0 0 0;person 1 1 0;person 2 0 0");
        Check.due("nobody", x.person(2, 7), -1);
        x.send(1, 1, 2);
        Check.due("by 1", x.person(2, 7), 1);
        x.send(0, 0, 2);
        Check.due("by 0 last", x.person(2, 7), 0);
        Check.due("in twice", x.person(2, 5), 2);
        x.send(2, 0, 0);
        Check.due("still by 0", x.person(2, 7), 0);
        Check.due("0 by 2", x.person(0, 7), 2);
        Check.due("out once", x.person(2, 6), 1);
    }

    private static void personRefused() {
        OutwardDoors x = lived();
        for (int what = 0; what <= 7; what++) {
            Check.due("person 2 of two", x.person(2, what), -2);
            Check.due("person -1", x.person(-1, what), -2);
            Check.due("without a castle", new OutwardDoors().person(0, what), -2);
        }
        int[] wrong = {-1, 8, LOW, HIGH};
        for (int w : wrong) {
            Check.due("what " + w, x.person(0, w), -2);
            Check.due("person " + w, x.person(w, 0), -2);
        }
        Check.due("the last", x.person(1, 0), 2);
    }

    private static void whoIsInRoom() {
        OutwardDoors x = Check.with("castle 8;person 7 0 0;person 0 0 0;person 7 0 0;person 7 0 0");
        Check.due("one", x.room(0, 1), 2);
        Check.due("three", x.room(7, 1), 13);
        Check.due("none", x.room(3, 1), 0);
        Check.due("all four", Check.with("castle 2" + ";person 1 1 1".repeat(4)).room(1, 1), 15);
    }

    private static void roomRefused() {
        OutwardDoors x = lived();
        int[] wrong = {-1, 3, LOW, HIGH};
        for (int w : wrong) {
            Check.due("room " + w, x.room(w, 0), -1);
            Check.due("what " + w, x.room(0, w), -1);
        }
        Check.due("the last room", x.room(2, 0), 2);
        Check.due("room 8 of eight", Check.with("castle 8").room(8, 0), -1);
        Check.due("without a castle", new OutwardDoors().room(0, 0), -1);
    }

    private static void roomsOfDoor() {
        OutwardDoors x = Check.with("castle 4;door 3 0;door 2 1;far 2 1;window 3 2;far 3 0");
        OutwardDoors y = Check.with("castle 3;far 2 1;door 1 2;far 0 1;door 2 0");
        Check.due("of two as far the lesser", y.door(0, 0), 1);
        Check.due("of two as far the greater", y.door(0, 1), 2);
        Check.due("of two as far the lesser", y.door(1, 0), 0);
        Check.due("of two as far the greater", y.door(1, 1), 2);
        int[][] due = {{0, 3}, {1, 2}, {3, 2}};
        for (int d = 0; d < 3; d++) {
            Check.due("less far of " + d, x.door(d, 0), due[d][0]);
            Check.due("the other of " + d, x.door(d, 1), due[d][1]);
        }
    }

    private static void openNow() {
        OutwardDoors x = Check.with("castle 4;door 3 0;far 3 0;door 0 1;window 1 2;night 0 0");
        int[] byNight = {0, 1, 1};
        int[] byDay = {0, 1, 0};
        for (int d = 0; d < 3; d++) {
            Check.due("by night " + d, x.door(d, 3), byNight[d]);
        }
        x.moment();
        for (int d = 0; d < 3; d++) {
            Check.due("by day " + d, x.door(d, 3), byDay[d]);
        }
    }

    private static void doorRefused() {
        OutwardDoors x = lived();
        int[] wrong = {-1, 2, 14, LOW, HIGH};
        for (int w : wrong) {
            Check.due("door " + w, x.door(w, 0), -1);
        }
        Check.due("the last", x.door(1, 0), 1);
        int[] wrongWhat = {-1, 4, LOW, HIGH};
        for (int w : wrongWhat) {
            Check.due("what " + w, x.door(0, w), -1);
        }
        OutwardDoors full = Check.with(CastleEdges.doors(14));
        Check.due("door 13", full.door(13, 2), 1);
        Check.due("door 14", full.door(14, 2), -1);
        Check.due("without a castle", new OutwardDoors().door(0, 0), -1);
    }

    private static void howManyPassed() {
        Check.due("none", Check.with("castle 2").moment(), 0);
        OutwardDoors x = Check.with(ROW);
        Check.due("one", x.moment(), 1);
        Check.due("two", x.moment(), 2);
        OutwardDoors four = Check.with("castle 2;door 0 1" + ";person 0 1 0".repeat(2) + ";person 1 0 0".repeat(2));
        Check.due("four", four.moment(), 4);
    }

    private static void momentWithoutCastle() {
        OutwardDoors x = Check.with(ROW);
        OutwardDoors y = new OutwardDoors();
        refuses(y, -1, "moment", z -> z.moment());
        Check.castle(y, "castle 9");
        refuses(y, -1, "moment behind a fault", z -> z.moment());
        Check.due("with one", x.moment(), 1);
    }

    private static void momentAtTheLast() {
        OutwardDoors x = Check.with(ROW, "go 0");
        x.force(0);
        for (int k = 0; k < 998; k++) {
            x.moment();
        }
        Check.due("the 999th", x.moment(), 0);
        x.force(-1);
        refuses(x, -1, "the 1000th", y -> y.moment());
        Check.due("undo", x.undo(), 19);
        Check.due("once more", x.moment(), 1);
    }

    private static void goalItWas() {
        OutwardDoors x = Check.with(ROW);
        Check.due("was 0", x.aim(0, 2), 0);
        Check.due("was 2", x.aim(0, 1), 2);
        Check.due("was 2", x.aim(1, 0), 2);
        Check.due("acts", x.count(10), 3);
    }

    private static void aimRefused() {
        OutwardDoors x = lived();
        refuses(x, -1, "aim so already", y -> y.aim(0, 0));
        refuses(x, -1, "aim of 2", y -> y.aim(2, 0));
        refuses(x, -1, "aim of -1", y -> y.aim(-1, 0));
        refuses(x, -1, "aim at 3", y -> y.aim(0, 3));
        refuses(x, -1, "aim at -1", y -> y.aim(0, -1));
        refuses(lived(), -1, "aim at HIGH", y -> y.aim(0, HIGH));
        refuses(lived(), -1, "aim of LOW", y -> y.aim(LOW, 0));
        refuses(new OutwardDoors(), -1, "aim without a castle", y -> y.aim(0, 0));
    }

    private static void nobodyComesIn() {
        OutwardDoors x = Check.with("castle 2;door 0 1;person 0 1 0;person 1 0 0");
        Check.due("nobody", x.send(0, 0, -1), true);
        Check.due("the other stays", x.person(1, 0), 1);
        Check.due("nobody came in", x.count(7), 0);
        Check.due("one went out", x.count(8), 1);
    }

    private static void refusesToSend(int out, int door, int in) {
        OutwardDoors x = Check.with("castle 4;door 0 1;door 1 2;window 0 2;far 3 0;door 0 3"
            + ";night 5 5;person 0 0 0;person 1 1 0;person 2 2 0;person 3 3 0");
        refuses(x, 0, "send " + out + " " + door + " " + in, y -> y.send(out, door, in) ? 1 : 0);
    }

    private static void sendRefused() {
        refusesToSend(1, 0, -1);
        refusesToSend(2, 1, 1);
        refusesToSend(0, 1, -1);
        refusesToSend(0, 2, -1);
        refusesToSend(0, 2, 2);
        refusesToSend(0, 3, -1);
        refusesToSend(0, 3, 3);
        refusesToSend(0, 0, 0);
        refusesToSend(0, 0, 2);
        refusesToSend(0, 0, 4);
        refusesToSend(0, 0, -2);
        refusesToSend(0, 4, -1);
        refusesToSend(0, -1, -1);
        refusesToSend(4, 0, -1);
        refusesToSend(-1, 0, -1);
        refusesToSend(-1, 0, 1);
        refusesToSend(LOW, LOW, LOW);
        refusesToSend(HIGH, HIGH, HIGH);
        Check.due("without a castle", new OutwardDoors().send(0, 0, -1), false);
    }

    private static void howManyMore() {
        OutwardDoors x = lived();
        Check.due("two more", x.undo(), 2);
        Check.due("one more", x.undo(), 1);
        Check.due("no more", x.undo(), 0);
        Check.due("as told", x.count(5), 0);
        Check.due("what is no act stays", x.count(9), 1);
        Check.due("what is no act stays", x.count(11), 41);
        Check.due("what is no act stays", x.count(4), 0);
    }

    private static void undoRefused() {
        OutwardDoors x = Check.with(ROW);
        refuses(x, -1, "undo of nothing", y -> y.undo());
        x.moment();
        x.undo();
        refuses(x, -1, "undo of no more", y -> y.undo());
        refuses(new OutwardDoors(), -1, "undo without a castle", y -> y.undo());
        x.aim(0, 0);
        x.send(0, 0, -1);
        x.force(0);
        x.note(0, 0, 0);
        x.seed(1);
        refuses(x, -1, "undo of what is no act", y -> y.undo());
    }

    private static void aheadRefused() {
        OutwardDoors x = lived();
        int[] wrong = {-1, 2, LOW, HIGH};
        for (int w : wrong) {
            Check.due("ahead of " + w, x.ahead(w, 0), -1);
        }
        int[] wrongN = {-1, 101, LOW, HIGH};
        for (int w : wrongN) {
            Check.due("ahead by " + w, x.ahead(0, w), -1);
        }
        Check.due("without a castle", new OutwardDoors().ahead(0, 0), -1);
    }

    private static void notIn200() {
        OutwardDoors x = Check.with("castle 2;door 0 1;person 0 1 0;person 1 0 0", "go 0");
        Check.due("out", x.comes(0), 1);
        Check.due("in", x.comes(1), 1);
        x.force(0);
        Check.due("never", x.comes(0), -2);
        Check.due("never", x.comes(1), -2);
    }

    private static void comesRefused() {
        OutwardDoors x = lived();
        int[] wrong = {-1, 2, LOW, HIGH};
        for (int w : wrong) {
            Check.due("comes of " + w, x.comes(w), -1);
        }
        Check.due("without a castle", new OutwardDoors().comes(0), -1);
    }

    private static void fewestCanNot() {
        OutwardDoors x = Check.with("castle 3;door 0 1;person 1 0 0;person 0 1 0;person 2 0 0;person 0 2 0");
        Check.due("the first two", x.fewest(3), 1);
        Check.due("the third", x.fewest(4), -2);
        Check.due("the fourth", x.fewest(8), -2);
        Check.due("all", x.fewest(15), -2);
    }

    private static void fewestRefused() {
        OutwardDoors x = lived();
        Check.due("both", x.fewest(3) >= -2, true);
        int[] wrong = {-1, 4, 5, 16, LOW, HIGH};
        for (int w : wrong) {
            Check.due("set " + w, x.fewest(w), -1);
        }
        OutwardDoors four = Check.with("castle 2" + ";person 1 1 1".repeat(4));
        Check.due("set 15 of four", four.fewest(15), 0);
        Check.due("set 16 of four", four.fewest(16), -1);
        Check.due("set 0 of none", Check.with("castle 2").fewest(0), 0);
        Check.due("set 1 of none", Check.with("castle 2").fewest(1), -1);
        Check.due("without a castle", new OutwardDoors().fewest(0), -1);
    }

    private static void firstAndLastPassing() {
        OutwardDoors x = Check.with("castle 3;door 0 1;door 1 2;person 0 2 0");
        Check.due("who at 0", x.passing(1, 0, 0), 0);
        Check.due("door at 0", x.passing(1, 0, 1), 0);
        Check.due("in at 0", x.passing(1, 0, 2), -1);
        Check.due("door at 1", x.passing(1, 1, 1), 1);
        Check.due("at 2", x.passing(1, 2, 1), -2);
    }

    private static void notSoMany() {
        OutwardDoors x = Check.with(ROW);
        Check.due("behind the last", x.passing(2, 2, 0), -2);
        Check.due("far behind it", x.passing(2, HIGH, 2), -2);
        Check.due("there already", x.passing(0, 0, 0), -2);
        Check.due("they can't", x.passing(1, 0, 0), -2);
    }

    private static void passingRefused() {
        OutwardDoors x = lived();
        int[] wrong = {-1, 4, LOW, HIGH};
        for (int w : wrong) {
            Check.due("set " + w, x.passing(w, 0, 0), -3);
        }
        int[] wrongWhat = {-1, 3, LOW, HIGH};
        for (int w : wrongWhat) {
            Check.due("what " + w, x.passing(2, 0, w), -3);
        }
        Check.due("k -1", x.passing(2, -1, 0), -3);
        Check.due("k LOW", x.passing(2, LOW, 0), -3);
        Check.due("without a castle", new OutwardDoors().passing(0, 0, 0), -3);
    }

    private static void caughtRefused() {
        OutwardDoors x = lived();
        int[] wrong = {-1, 2, LOW, HIGH};
        for (int w : wrong) {
            Check.due("what " + w, x.caught(w), -1);
        }
        Check.due("without a castle", new OutwardDoors().caught(0), -1);
        Check.due("without a castle", new OutwardDoors().caught(1), -1);
    }

    private static void pageByNone() {
        OutwardDoors x = Check.with("castle 4;door 0 1;door 1 2;person 2 0 0;person 2 3 0");
        for (int what = 0; what < 2; what++) {
            Check.due("two doors in", x.page(0, what), -2);
            Check.due("no door there", x.page(1, what), -2);
        }
    }

    private static void pageRefused() {
        OutwardDoors x = lived();
        int[] wrong = {-1, 2, LOW, HIGH};
        for (int w : wrong) {
            Check.due("person " + w, x.page(w, 0), -1);
            Check.due("what " + w, x.page(0, w), -1);
        }
        Check.due("without a castle", new OutwardDoors().page(0, 0), -1);
        Check.due("without people", Check.with("castle 2").page(0, 1), -1);
    }

    private static void priceCanNot() {
        Check.due("nobody to let them in", Check.with("castle 2;door 0 1;person 1 0 0").price(0), -2);
        Check.due("no door", Check.with("castle 2;person 0 1 0").price(0), -2);
        Check.due("those farther out can't",
            Check.with("castle 3;door 0 1;door 1 2;person 1 0 0;person 2 0 0;person 2 0 0").price(0), -2);
    }

    private static void priceRefused() {
        OutwardDoors x = lived();
        int[] wrong = {-1, 2, LOW, HIGH};
        for (int w : wrong) {
            Check.due("person " + w, x.price(w), -1);
        }
        Check.due("without a castle", new OutwardDoors().price(0), -1);
    }

    private static void turnedCanNot() {
        OutwardDoors x = Check.with("castle 3;door 0 1;door 1 2;person 2 0 0");
        Check.due("door 0", x.turned(0, 1), -2);
        Check.due("door 1", x.turned(1, 1), -2);
    }

    private static void turnedRefused() {
        OutwardDoors x = lived();
        int[] wrong = {-1, 2, LOW, HIGH};
        for (int w : wrong) {
            Check.due("door " + w, x.turned(w, 0), -1);
        }
        int[] wrongSets = {-1, 4, LOW, HIGH};
        for (int w : wrongSets) {
            Check.due("set " + w, x.turned(0, w), -1);
        }
        OutwardDoors y = Check.with("castle 3;window 0 1;far 2 0;door 0 2;person 0 0 0");
        Check.due("a window by day", y.turned(0, 0), -1);
        Check.due("one that nobody passes", y.turned(1, 0), -1);
        Check.due("without a castle", new OutwardDoors().turned(0, 0), -1);
    }

    private static void swapNone() {
        OutwardDoors x = Check.with("castle 2;door 0 1;person 0 0 0;person 1 1 0");
        Check.due("twos", x.swap(0), 0);
        Check.due("the lesser", x.swap(1), -2);
        Check.due("the greater", x.swap(2), -2);
    }

    private static void swapRefused() {
        OutwardDoors x = lived();
        int[] wrong = {-1, 3, LOW, HIGH};
        for (int w : wrong) {
            Check.due("what " + w, x.swap(w), -1);
        }
        for (int what = 0; what < 3; what++) {
            Check.due("without a castle", new OutwardDoors().swap(what), -1);
        }
    }

    private static void notesNone() {
        OutwardDoors x = lived();
        x.note(60, 1, 2);
        Check.due("two", x.count(9), 2);
        Check.due("whoever and wherever", x.note(-1, HIGH, LOW), 0);
        Check.due("none", x.count(9), 0);
        Check.due("none again", x.note(-1, 0, 0), 0);
        Check.due("the first again", x.note(0, 0, 0), 1);
    }

    private static void noteRefused() {
        OutwardDoors x = lived();
        refuses(x, -2, "note at 61", y -> y.note(61, 0, 0));
        refuses(x, -2, "note at -2", y -> y.note(-2, 0, 0));
        refuses(x, -2, "note of 2", y -> y.note(0, 2, 0));
        refuses(x, -2, "note of -1", y -> y.note(0, -1, 0));
        OutwardDoors z = lived();
        refuses(z, -2, "note in 3", y -> y.note(0, 0, 3));
        refuses(z, -2, "note in -1", y -> y.note(0, 0, -1));
        refuses(z, -2, "note at HIGH", y -> y.note(HIGH, 0, 0));
        refuses(new OutwardDoors(), -2, "note without a castle", y -> y.note(0, 0, 0));
        OutwardDoors full = lived();
        for (int k = 2; k <= 10; k++) {
            Check.due("note", full.note(0, 0, 2), k);
        }
        refuses(full, -2, "an 11th", y -> y.note(0, 0, 0));
    }

    private static void ruledNoneSuch() {
        OutwardDoors x = Check.with(ROW, "go 1");
        Check.due("none first", x.ruled(1), -1);
        x.note(0, 0, 1);
        Check.due("how many", x.ruled(0), 0);
        Check.due("none such", x.ruled(1), -2);
        Check.due("without people or notes", Check.with("castle 2").ruled(0), 1);
    }

    private static void ruledRefused() {
        OutwardDoors x = lived();
        int[] wrong = {-1, 2, LOW, HIGH};
        for (int w : wrong) {
            Check.due("what " + w, x.ruled(w), -3);
        }
        Check.due("without a castle", new OutwardDoors().ruled(0), -3);
        Check.due("without a castle", new OutwardDoors().ruled(1), -3);
    }

    private static void lookNone() {
        OutwardDoors x = Check.with(ROW);
        x.note(0, 0, 1);
        Check.due("no rule is so", x.look(0, 0), -2);
        Check.due("no rule is so", x.look(60, 1), -2);
        Check.due("no people", Check.with("castle 2", "go 1").look(0, 0), -2);
        Check.due("no people", Check.with("castle 2", "go 1").look(0, 1), -2);
    }

    private static void lookRefused() {
        OutwardDoors x = lived();
        int[] wrongN = {-1, 61, LOW, HIGH};
        for (int w : wrongN) {
            Check.due("n " + w, x.look(w, 0), -1);
        }
        int[] wrong = {-1, 2, LOW, HIGH};
        for (int w : wrong) {
            Check.due("what " + w, x.look(0, w), -1);
        }
        Check.due("n 61 without people", Check.with("castle 2").look(61, 0), -1);
        Check.due("without a castle", new OutwardDoors().look(0, 0), -1);
    }

    private static void seedWas() {
        OutwardDoors x = new OutwardDoors();
        Check.due("0 at first", x.seed(HIGH), 0);
        Check.due("the greatest", x.seed(1), HIGH);
        Check.due("1", x.seed(0), 1);
    }

    private static void seedRefused() {
        OutwardDoors x = lived();
        refuses(x, -1, "seed -1", y -> y.seed(-1));
        refuses(x, -1, "seed LOW", y -> y.seed(LOW));
        Check.due("as it was", x.seed(0), 41);
    }

    private static void daysRefused() {
        OutwardDoors x = lived();
        int[] wrongM = {-1, 0, 11, LOW, HIGH};
        for (int w : wrongM) {
            Check.due("m " + w, x.days(w, 1, 0), -1);
        }
        int[] wrongN = {-1, 0, 61, LOW, HIGH};
        for (int w : wrongN) {
            Check.due("n " + w, x.days(1, w, 0), -1);
        }
        int[] wrong = {-1, 2, LOW, HIGH};
        for (int w : wrong) {
            Check.due("what " + w, x.days(1, 1, w), -1);
        }
        Check.due("1 and 1", x.days(1, 1, 0) >= 0, true);
        Check.due("10 and 60", x.days(10, 60, 1) >= 0, true);
        Check.due("without a castle", new OutwardDoors().days(1, 1, 0), -1);
    }

    private static void countInForce() {
        OutwardDoors x = new OutwardDoors();
        Check.due("none", x.count(4), -1);
        Check.rule(x, "go 1");
        Check.due("none still", x.count(4), -1);
        x.force(0);
        Check.due("0", x.count(4), 0);
        x.force(-1);
        Check.due("none again", x.count(4), -1);
    }

    private static void countInAndOut() {
        OutwardDoors x = Check.with("castle 2;door 0 1;person 0 1 0;person 0 1 0;person 1 0 0;person 0 1 0");
        Check.due("in at first", x.count(7), 0);
        Check.due("out at first", x.count(8), 0);
        x.moment();
        Check.due("in", x.count(7), 1);
        Check.due("out", x.count(8), 3);
        x.send(2, 0, 3);
        Check.due("in by sending", x.count(7), 2);
        Check.due("out by sending", x.count(8), 4);
        x.undo();
        x.undo();
        Check.due("in undone", x.count(7), 0);
        Check.due("out undone", x.count(8), 0);
    }

    private static void countRefused() {
        OutwardDoors x = lived();
        int[] wrong = {-1, 13, LOW, HIGH};
        for (int w : wrong) {
            Check.due("count " + w, x.count(w), -1);
            Check.due("count " + w + " of a new one", new OutwardDoors().count(w), -1);
        }
    }

    private static void imageRefused() {
        OutwardDoors x = lived();
        refuses(x, -1, "image 4", y -> y.image(4));
        refuses(x, -1, "image -1", y -> y.image(-1));
        refuses(x, -1, "image LOW", y -> y.image(LOW));
        refuses(x, -1, "image HIGH", y -> y.image(HIGH));
        refuses(x, 2, "image 3", y -> y.image(3));
    }

    private static void backRefused() {
        OutwardDoors x = lived();
        x.image(2);
        x.moment();
        refuses(x, -1, "back 1", y -> y.back(1));
        refuses(x, -1, "back 4", y -> y.back(4));
        refuses(x, -1, "back -1", y -> y.back(-1));
        refuses(lived(), -1, "back LOW", y -> y.back(LOW));
        refuses(lived(), -1, "back HIGH", y -> y.back(HIGH));
        refuses(new OutwardDoors(), -1, "back 0 of none", y -> y.back(0));
        Check.due("the one that was made", x.back(2), 2);
    }
}
