/** Edges of doors, windows and nights, of steps, moments and acts. */
final class MomentEdges {
    private MomentEdges() {
    }

    static void tell(Edges e) {
        e.edge("What it is", "An object is used for at most 512 calls", MomentEdges::fiveHundredTwelveCalls);
        e.term("A door (a WINDOW, by night alone)", MomentEdges::windowByNightAlone);
        e.term("leads OUT from the one less FAR to the other one, IN the other way;", MomentEdges::outFromTheLessFar);
        e.term("between two as FAR nobody passes.", MomentEdges::betweenTwoAsFar);
        e.term("It is night in a MOMENT whose rest by 24 is in the MOMENTS told.", MomentEdges::nightByTheRest);
        e.term("through an open door (which can be passed at all, either way),", MomentEdges::stepThroughOpenDoors);
        e.term("from which it is fewest doors to their GOAL", MomentEdges::stepByFewestDoors);
        e.term("(all doors open now taken both ways),", MomentEdges::stepByDoorsOpenNow);
        e.term("of several the least;", MomentEdges::stepOfSeveralTheLeast);
        e.term("they have none at their GOAL,", MomentEdges::noStepAtTheGoal);
        e.term("or if there is no way.", MomentEdges::noStepWithoutWay);
        e.term("each PERSON, by how all is at its begin, wills:", MomentEdges::allByTheBegin);
        e.term("the SUM of its first CLAUSE without a TEST, or whose TEST holds", MomentEdges::firstClauseThatHolds);
        e.term("(0 without):", MomentEdges::noClauseThatHolds);
        e.term("above 0 their STEP;", MomentEdges::aboveZero);
        e.term("below 0 OUT, through the first open door told that leads out from their ROOM", MomentEdges::belowZero);
        e.term("(nothing, if there is none);", MomentEdges::noDoorOut);
        e.term("at 0 nothing;", MomentEdges::atZero);
        e.term("without a RULE always their STEP.", MomentEdges::withoutRule);
        e.term("(1) whoever wills to go OUT goes.", MomentEdges::allWhoWillGoOut);
        e.term("(2) Through each door, in the order told, as many come IN as go OUT through it in this MOMENT,",
            MomentEdges::asManyInAsOut);
        e.term("by numbers, of those who will;", MomentEdges::inByNumbers);
        e.term("each is LET IN by one of these, by numbers, too.", MomentEdges::letInByNumbers);
        e.term("All else stay.", MomentEdges::allElseStay);
        e.term("MOMENT is 1 more (999 at most).", MomentEdges::oneMomentMore);
        e.term("A PASSING: one goes OUT through an open door, and (or not) one comes IN through it at the same time.",
            MomentEdges::passingsThatCanBe);
        e.term("AIM (a PERSON has another GOAL);", MomentEdges::aimAtAnother);
        e.term("or nobody; no MOMENT goes by).", MomentEdges::noMomentBySending);
        e.term("The last 20 can be UNDONE,", MomentEdges::lastTwenty);
        e.term("the last first.", MomentEdges::lastFirst);
    }

    /** With a rule in force by which nobody wills anything. */
    private static OutwardDoors still(String castle) {
        OutwardDoors x = Check.with(castle, "go 0");
        x.force(0);
        return x;
    }

    private static OutwardDoors forced(String castle, String rule) {
        OutwardDoors x = Check.with(castle, rule);
        x.force(0);
        return x;
    }

    private static void fiveHundredTwelveCalls() {
        OutwardDoors x = new OutwardDoors();
        String castle = "castle 2;door 0 1;night 9 9;person 0 1 0;person 1 0 0";
        int calls = 0;
        for (int at = 0; at < castle.length(); at += 20) {
            int[] f = Check.fiveNumbers(castle, at);
            x.feed(f[0], f[1], f[2], f[3], f[4]);
            calls++;
        }
        x.end(castle.length());
        Check.due("castle", x.castle(), 2);
        for (calls += 2; calls < 506; calls++) {
            x.moment();
        }
        int moments = 506 - 2 - (castle.length() + 19) / 20;
        Check.due("the 507th call", x.count(5), moments);
        Check.due("the 508th call", x.count(6), moments % 24 == 9 ? 1 : 0);
        Check.due("the 509th call", x.undo(), 19);
        Check.due("the 510th call", x.count(5), moments - 1);
        Check.due("the 511th call", x.person(1, 0), 0);
        Check.due("the 512th call", x.comes(0), moments - 1);
    }

    private static void windowByNightAlone() {
        OutwardDoors x = still("castle 2;window 0 1;night 3 4;person 0 1 0");
        int[] open = {0, 0, 0, 1, 1, 0};
        for (int m = 0; m < open.length; m++) {
            Check.due("the window at " + m, x.door(0, 3), open[m]);
            Check.due("a step at " + m, x.person(0, 4), open[m] == 1 ? 1 : -1);
            Check.due("fewest at " + m, x.fewest(1), open[m] == 1 ? 1 : -2);
            if (open[m] == 0) {
                Check.due("sent at " + m, x.send(0, 0, -1), false);
            }
            x.moment();
        }
        OutwardDoors y = still("castle 2;door 0 1;night 3 4");
        Check.due("a door by day", y.door(0, 3), 1);
        Check.due("a door is no window", y.door(0, 2), 0);
    }

    private static void outFromTheLessFar() {
        String[] texts = {"castle 2;door 0 1", "castle 2;door 1 0", "castle 2;door 0 1;far 0 2",
            "castle 2;door 1 0;far 0 2", "castle 2;far 0 9;far 1 8;door 0 1", "castle 2;far 0 0;far 1 9;door 1 0"};
        int[] inner = {0, 0, 1, 1, 1, 0};
        for (int k = 0; k < texts.length; k++) {
            OutwardDoors x = Check.with(texts[k] + ";person 0 0 0;person 1 1 0");
            Check.due(texts[k] + " from", x.door(0, 0), inner[k]);
            Check.due(texts[k] + " to", x.door(0, 1), 1 - inner[k]);
            Check.due(texts[k] + " inward", x.send(1 - inner[k], 0, -1), false);
            Check.due(texts[k] + " inward", x.send(1 - inner[k], 0, inner[k]), false);
            Check.due(texts[k] + " outward", x.send(inner[k], 0, 1 - inner[k]), true);
        }
    }

    private static void betweenTwoAsFar() {
        OutwardDoors x = Check.with("castle 3;door 2 1;far 2 1;person 1 2 0;person 2 1 0", "go 0 - 1");
        Check.due("from", x.door(0, 0), 1);
        Check.due("to", x.door(0, 1), 2);
        Check.due("can't be passed", x.door(0, 3), 0);
        Check.due("one way", x.send(0, 0, -1), false);
        Check.due("one way", x.send(0, 0, 1), false);
        Check.due("the other way", x.send(1, 0, 0), false);
        Check.due("no step", x.person(0, 4), -1);
        Check.due("by steps", x.moment(), 0);
        x.force(0);
        Check.due("outward", x.moment(), 0);
        Check.due("fewest", x.fewest(1), -2);
        Check.due("caught", x.caught(1), 3);
        Check.due("turned", x.turned(0, 1), -1);
        Check.due("outside", x.room(1, 2), 0);
        OutwardDoors y = Check.with("castle 2;window 0 1;far 0 1;night 0 23");
        Check.due("nor a window by night", y.door(0, 3), 0);
    }

    private static void nights(String night, int[] moments) {
        OutwardDoors x = still("castle 2;" + night);
        int k = 0;
        for (int m = 0; m <= 73; m++) {
            boolean due = k < moments.length && moments[k] == m;
            Check.due(night + " at " + m, x.count(6), due ? 1 : 0);
            k += due ? 1 : 0;
            x.moment();
        }
    }

    private static void nightByTheRest() {
        nights("night 0 0", new int[] {0, 24, 48, 72});
        nights("night 23 23", new int[] {23, 47, 71});
        nights("night 22 23", new int[] {22, 23, 46, 47, 70, 71});
        nights("night 0 1", new int[] {0, 1, 24, 25, 48, 49, 72, 73});
        int[] all = new int[74];
        for (int m = 0; m < 74; m++) {
            all[m] = m;
        }
        nights("night 0 23", all);
    }

    private static void stepThroughOpenDoors() {
        OutwardDoors x = Check.with("castle 3;door 0 1;person 1 0 0;person 0 1 0;window 0 2;person 0 2 0");
        Check.due("inward", x.person(0, 4), 0);
        Check.due("outward", x.person(1, 4), 1);
        Check.due("not through a window by day", x.person(2, 4), -1);
        OutwardDoors y = Check.with("castle 4;door 0 1;far 1 0;door 0 2;door 2 3;door 1 3;person 0 1 0");
        Check.due("not by a door that can't be passed, but around", y.person(0, 4), 2);
        Check.due("three doors around", y.person(0, 3), 3);
    }

    private static void stepByFewestDoors() {
        OutwardDoors x = Check.with("castle 5;door 4 1;door 1 2;door 2 0;door 4 3;door 3 0;person 4 0 0");
        Check.due("one door from 3, two from 1", x.person(0, 4), 3);
        Check.due("left", x.person(0, 3), 2);
        OutwardDoors y = Check.with("castle 3;door 0 1;door 1 2;door 0 2;person 0 2 0");
        Check.due("the goal itself", y.person(0, 4), 2);
        OutwardDoors z = Check.with("castle 8;door 0 7;door 0 6;person 7 6 0;person 6 7 0;person 7 0 0");
        Check.due("from the last room", z.person(0, 4), 0);
        Check.due("in and out through 0", z.person(0, 3), 2);
        Check.due("to the last room", z.person(1, 4), 0);
        Check.due("beside the goal", z.person(2, 3), 1);
    }

    private static void stepByDoorsOpenNow() {
        OutwardDoors x = still("castle 4;door 0 1;door 1 2;door 2 3;window 0 3;night 1 1;person 3 1 0;person 0 2 0");
        Check.due("by day through 2", x.person(0, 4), 2);
        Check.due("left by day", x.person(0, 3), 2);
        Check.due("by day through 1", x.person(1, 4), 1);
        x.moment();
        Check.due("by night as near through 0, which is less", x.person(0, 4), 0);
        Check.due("left by night", x.person(0, 3), 2);
        Check.due("by night as near through 3", x.person(1, 4), 1);
        x.aim(0, 0);
        Check.due("by night straight", x.person(0, 4), 0);
        Check.due("left by night", x.person(0, 3), 1);
        x.moment();
        Check.due("by day around", x.person(0, 4), 2);
        Check.due("left by day", x.person(0, 3), 3);
    }

    private static void stepOfSeveralTheLeast() {
        OutwardDoors x = Check.with("castle 5;door 4 3;door 4 1;door 4 2;door 0 3;door 0 2;door 0 1;person 4 0 0");
        Check.due("1 of 1, 2 and 3", x.person(0, 4), 1);
        x.moment();
        OutwardDoors y = Check.with("castle 5;door 0 3;door 0 2;door 2 4;door 3 4;person 0 4 0");
        Check.due("2, though 3 is told first", y.person(0, 4), 2);
        y.moment();
        Check.due("there", y.person(0, 0), 2);
    }

    private static void noStepAtTheGoal() {
        OutwardDoors x = Check.with("castle 2;door 0 1;person 0 0 0;person 0 1 0");
        Check.due("at the goal", x.person(0, 4), -1);
        Check.due("beside it", x.person(1, 4), 1);
        x.moment();
        Check.due("come there", x.person(1, 4), -1);
        Check.due("nobody steps", x.moment(), 0);
    }

    private static void noStepWithoutWay() {
        OutwardDoors x = Check.with("castle 4;door 0 1;door 2 3;person 0 2 0;person 0 3 0;person 3 0 0");
        for (int p = 0; p < 3; p++) {
            Check.due("step of " + p, x.person(p, 4), -1);
            Check.due("left of " + p, x.person(p, 3), 99);
        }
        Check.due("nobody steps", x.moment(), 0);
    }

    private static void allByTheBegin() {
        OutwardDoors x = forced("castle 2;door 0 1;person 0 1 0;person 0 1 0;person 0 1 0", "go 1 if here = 2");
        Check.due("all three see two others", x.moment(), 3);
        OutwardDoors y = forced("castle 3;door 0 1;door 1 2;person 0 2 0;person 1 2 0", "go 1 if here = 0");
        Check.due("both are alone", y.moment(), 2);
        Check.due("one behind the other", y.person(0, 0), 1);
        OutwardDoors z = Check.with("castle 3;door 0 1;door 1 2;person 2 0 0;person 0 2 0");
        z.moment();
        Check.due("1 was not in 1 at the begin, so 0 stays", z.person(0, 0), 2);
    }

    private static final String FORK = "castle 4;door 1 2;door 1 3;person 1 3 0";

    private static void firstClauseThatHolds() {
        Check.due("the first of two", forced(FORK, "go 1;go 0 - 1").ahead(0, 1), 3);
        Check.due("the first that holds", forced(FORK, "go 1 if 1 = 0;go 0 - 1 if 1 = 1;go 1").ahead(0, 1), 2);
        Check.due("one without a test", forced(FORK, "go 1 if 1 = 0;go 0 - 1;go 1 if 1 = 1").ahead(0, 1), 2);
        Check.due("0 is a sum, too", forced(FORK, "go 0;go 1").ahead(0, 1), 1);
        Check.due("0 is a sum, too", forced(FORK, "go 0 if 1 = 1;go 1").ahead(0, 1), 1);
    }

    private static void noClauseThatHolds() {
        Check.due("one", forced(FORK, "go 1 if 1 = 0").ahead(0, 1), 1);
        Check.due("two", forced(FORK, "go 1 if 1 = 0;go 0 - 1 if 2 = 1").ahead(0, 1), 1);
    }

    private static void aboveZero() {
        Check.due("1", forced(FORK, "go 1").ahead(0, 1), 3);
        Check.due("99999", forced(FORK, "go 99999").ahead(0, 1), 3);
        OutwardDoors x = forced("castle 2;door 0 1;person 0 0 0;person 1 0 0", "go 1");
        Check.due("at the goal, and in with nobody out", x.moment(), 0);
    }

    private static void belowZero() {
        Check.due("-1", forced(FORK, "go 0 - 1").ahead(0, 1), 2);
        Check.due("-99999", forced(FORK, "go 0 - 99999").ahead(0, 1), 2);
        Check.due("at the goal, too", forced("castle 2;door 0 1;person 0 0 0", "go 0 - 1").ahead(0, 1), 1);
        String order = "castle 4;door 1 3;door 1 2;person 1 2 0";
        Check.due("by the order told, not the rooms'", forced(order, "go 0 - 1").ahead(0, 1), 3);
        String inward = "castle 3;door 0 1;door 2 1;person 1 0 0";
        Check.due("not a door that leads in", forced(inward, "go 0 - 1").ahead(0, 1), 2);
        String window = "castle 4;window 0 3;far 1 0;door 0 1;door 0 2;night 1 1;person 0 0 0;person 0 0 0";
        OutwardDoors x = forced(window, "go 0 - 1 if person = moment");
        x.moment();
        Check.due("by day not the window, nor a door that nobody passes", x.person(0, 0), 2);
        x.moment();
        Check.due("by night the window", x.person(1, 0), 3);
    }

    private static void noDoorOut() {
        OutwardDoors x = forced("castle 3;door 0 1;door 1 2;person 2 0 0;person 2 2 0", "go 0 - 1");
        Check.due("from the outermost", x.moment(), 0);
        OutwardDoors y = forced("castle 2;person 0 1 0", "go 0 - 1");
        Check.due("without doors", y.moment(), 0);
        OutwardDoors z = forced("castle 2;window 0 1;person 0 1 0", "go 0 - 1");
        Check.due("with a window by day", z.moment(), 0);
    }

    private static void atZero() {
        Check.due("0", forced(FORK, "go 0").ahead(0, 100), 1);
        Check.due("1 - 1", forced(FORK, "go 1 - 1").ahead(0, 100), 1);
    }

    private static void withoutRule() {
        OutwardDoors x = Check.with(FORK, "go 0");
        Check.due("none in force yet", x.ahead(0, 1), 3);
        x.force(0);
        Check.due("one in force", x.ahead(0, 1), 1);
        x.force(-1);
        Check.due("none in force again", x.moment(), 1);
        Check.due("the step", x.person(0, 0), 3);
    }

    private static void allWhoWillGoOut() {
        OutwardDoors x = Check.with("castle 3;door 0 1;door 1 2"
            + ";person 0 1 0;person 0 1 0;person 0 2 0;person 1 2 0");
        Check.due("four at once", x.moment(), 4);
        Check.due("three in 1", x.room(1, 1), 7);
        Check.due("one in 2", x.room(2, 1), 8);
        Check.due("all went out", x.count(8), 4);
        Check.due("nobody came in", x.count(7), 0);
    }

    private static void asManyInAsOut() {
        OutwardDoors none = Check.with("castle 2;door 0 1;person 1 0 0;person 1 0 0");
        Check.due("none out, none in", none.moment(), 0);
        OutwardDoors one = Check.with("castle 2;door 0 1;person 1 0 0;person 0 1 0;person 1 0 0");
        Check.due("one out, one in", one.moment(), 2);
        Check.due("in", one.count(7), 1);
        OutwardDoors two = Check.with("castle 2;door 0 1;person 0 1 0;person 0 1 0;person 1 0 0");
        Check.due("two out, one in", two.moment(), 3);
        Check.due("in", two.count(7), 1);
        OutwardDoors both = Check.with("castle 2;door 0 1;person 0 1 0;person 1 0 0;person 1 0 0;person 0 1 0");
        Check.due("two out, two in", both.moment(), 4);
        OutwardDoors other = Check.with("castle 3;door 0 1;door 0 2;person 0 2 0;person 1 0 0");
        Check.due("out through another door", other.moment(), 1);
        Check.due("so nobody comes in", other.person(1, 0), 1);
        OutwardDoors doors = Check.with("castle 3;door 0 1;door 0 2;person 0 2 0;person 1 0 0;person 0 1 0;person 2 0 0");
        Check.due("each door for itself", doors.moment(), 4);
        Check.due("1 by 2", doors.person(1, 7), 2);
        Check.due("3 by 0", doors.person(3, 7), 0);
    }

    private static void inByNumbers() {
        OutwardDoors x = Check.with("castle 2;door 0 1;person 0 1 0;person 1 0 0;person 1 0 0;person 1 0 0");
        x.moment();
        Check.due("1 of 1, 2 and 3", x.room(0, 1), 2);
        OutwardDoors y = Check.with("castle 2;door 0 1;person 1 0 0;person 1 0 0;person 1 0 0;person 0 1 0");
        y.moment();
        Check.due("0 of 0, 1 and 2", y.room(0, 1), 1);
        OutwardDoors z = Check.with("castle 2;door 0 1;person 1 1 0;person 1 0 0;person 0 1 0");
        z.moment();
        Check.due("not 0, who does not will", z.room(0, 1), 2);
    }

    private static void letInByNumbers() {
        OutwardDoors x = Check.with("castle 2;door 0 1;person 1 0 0;person 0 1 0;person 1 0 0;person 0 1 0");
        x.moment();
        Check.due("0 by 1", x.person(0, 7), 1);
        Check.due("2 by 3", x.person(2, 7), 3);
        OutwardDoors y = Check.with("castle 2;door 0 1;person 0 1 0;person 0 1 0;person 1 0 0;person 0 1 0");
        y.moment();
        Check.due("2 by 0 of 0, 1 and 3", y.person(2, 7), 0);
        y.aim(2, 1);
        y.aim(1, 0);
        y.moment();
        Check.due("1 by 2", y.person(1, 7), 2);
        Check.due("2 is still let in by 0 last", y.person(2, 7), 0);
    }

    private static void allElseStay() {
        OutwardDoors x = Check.with("castle 3;door 0 1;door 1 2;person 2 0 0;person 1 0 0;person 1 1 0;person 0 0 0");
        Check.due("nobody passes", x.moment(), 0);
        int[] rooms = {2, 1, 1, 0};
        for (int p = 0; p < 4; p++) {
            Check.due("room of " + p, x.person(p, 0), rooms[p]);
            Check.due("let in", x.person(p, 7), -1);
        }
        Check.due("a moment goes by all the same", x.count(5), 1);
    }

    private static void oneMomentMore() {
        OutwardDoors x = still("castle 2");
        Check.due("without people", x.moment(), 0);
        Check.due("moment", x.count(5), 1);
        for (int m = 1; m < 999; m++) {
            x.moment();
        }
        Check.due("the last", x.count(5), 999);
        Check.due("none behind it", x.moment(), -1);
        Check.due("still the last", x.count(5), 999);
        OutwardDoors y = Check.with("castle 2;door 0 1;person 0 1 0", "go 1 if moment > 999");
        y.force(0);
        for (int m = 0; m < 999; m++) {
            y.moment();
        }
        Check.due("never above 999", y.ahead(0, 100), 0);
    }

    private static OutwardDoors threeInARow() {
        return Check.with("castle 3;door 0 1;door 1 2;person 1 1 0;person 2 0 0;person 0 2 0;person 1 0 0");
    }

    private static void passingsThatCanBe() {
        Check.due("alone", threeInARow().send(0, 1, -1), true);
        Check.due("with one in", threeInARow().send(0, 1, 1), true);
        Check.due("the last of the people", threeInARow().send(3, 1, 1), true);
        Check.due("with the last in", threeInARow().send(2, 0, 3), true);
        OutwardDoors x = threeInARow();
        String before = Check.allOf(x);
        int[][] refused = {{0, 0, -1}, {1, 1, -1}, {2, 1, -1}, {0, 1, 0}, {0, 1, 2}, {0, 1, 3}, {2, 0, 1}, {0, 1, -2},
            {0, 1, 4}, {-1, 1, -1}, {4, 1, -1}, {0, -1, -1}, {0, 2, -1}, {0, 1, 2147483647}, {-2147483648, 1, -1}};
        for (int[] r : refused) {
            Check.due("send " + r[0] + " " + r[1] + " " + r[2], x.send(r[0], r[1], r[2]), false);
        }
        Check.due("nothing happened", before.equals(Check.allOf(x)), true);
    }

    private static void aimAtAnother() {
        OutwardDoors x = threeInARow();
        Check.due("so already", x.aim(0, 1), -1);
        Check.due("no act", x.count(10), 0);
        Check.due("another", x.aim(0, 2), 1);
        Check.due("an act", x.count(10), 1);
        Check.due("goal", x.person(0, 1), 2);
        Check.due("back again", x.aim(0, 1), 2);
        Check.due("the first room", x.aim(0, 0), 1);
        Check.due("no such room", x.aim(0, 3), -1);
    }

    private static void noMomentBySending() {
        OutwardDoors x = threeInARow();
        x.send(0, 1, 1);
        Check.due("moment", x.count(5), 0);
        Check.due("out", x.person(0, 6), 1);
        Check.due("in", x.person(1, 5), 1);
        Check.due("let in by", x.person(1, 7), 0);
        Check.due("all out", x.count(8), 1);
        Check.due("all in", x.count(7), 1);
        x.send(3, 1, -1);
        Check.due("nobody came in", x.count(7), 1);
        Check.due("acts", x.count(10), 2);
    }

    private static void lastTwenty() {
        OutwardDoors x = still("castle 2;person 0 0 0");
        for (int k = 1; k <= 19; k++) {
            x.moment();
            Check.due("acts", x.count(10), k);
        }
        x.moment();
        Check.due("20 acts", x.count(10), 20);
        x.moment();
        Check.due("21 acts", x.count(10), 20);
        for (int k = 19; k >= 0; k--) {
            Check.due("undo", x.undo(), k);
        }
        Check.due("the 21st", x.undo(), -1);
        Check.due("moment 1 stays", x.count(5), 1);
        x.moment();
        Check.due("one act again", x.count(10), 1);
        Check.due("undone", x.undo(), 0);
        for (int k = 0; k < 45; k++) {
            x.moment();
        }
        for (int k = 0; k < 20; k++) {
            x.undo();
        }
        Check.due("20 of 45 undone", x.count(5), 26);
        Check.due("no more", x.undo(), -1);
    }

    private static void lastFirst() {
        OutwardDoors x = threeInARow();
        String[] states = new String[5];
        states[0] = Check.allOf(x);
        x.moment();
        states[1] = Check.allOf(x);
        x.aim(0, 0);
        states[2] = Check.allOf(x);
        x.send(2, 1, -1);
        states[3] = Check.allOf(x);
        x.moment();
        for (int k = 3; k >= 0; k--) {
            Check.due("undo", x.undo(), k);
            Check.due("as ahead of act " + k, Check.allOf(x), states[k]);
        }
    }
}
