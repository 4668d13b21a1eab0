/** Edges of what is asked, of notes, draws and images. */
final class AskEdges {
    private static final String ROW = "castle 3;door 0 1;door 1 2;person 2 0 5;person 0 2 7";
    private static final String EIGHT = "castle 8;door 0 1;door 1 2;door 2 3;door 3 4;door 4 5;door 5 6;door 6 7";

    private AskEdges() {
    }

    static void tell(Edges e) {
        e.term("(By what is asked nothing changes;", AskEdges::nothingChanges);
        e.term("doors are as they are open now,", AskEdges::doorsAsNow);
        e.term("but for what goes on by MOMENTS.)", AskEdges::doorsByMoments);
        e.term("AHEAD n MOMENTS (0 to 100)", AskEdges::zeroToHundredAhead);
        e.term("by the RULE IN FORCE: where a PERSON is.", AskEdges::aheadByRule);
        e.term("COMES: the MOMENT at whose begin a PERSON is first at their GOAL", AskEdges::comesFirst);
        e.term("(now: MOMENT;", AskEdges::comesNow);
        e.term("200 are looked at).", AskEdges::comesIn200);
        e.term("by which all of these are at their GOALS, together, at the end;", AskEdges::fewestTogether);
        e.term("the first such row (by who goes out,", AskEdges::rowByWhoGoesOut);
        e.term("then the door,", AskEdges::rowByDoor);
        e.term("then who comes in, nobody ahead of 0).", AskEdges::rowByWhoComesIn);
        e.term("CAUGHT: who can't, by any PASSINGS at all, come to their GOAL;", AskEdges::caughtFromGoal);
        e.term("who can't come to another ROOM than theirs.", AskEdges::caughtInRoom);
        e.term("one more, who goes wherever it helps, makes FEWEST of that PERSON least,", AskEdges::pageMakesLeast);
        e.term("of several the least ROOM;", AskEdges::pageInLeastRoom);
        e.term("the least PAY, of others together,", AskEdges::priceOfOthers);
        e.term("each time they go out,", AskEdges::priceEachTime);
        e.term("if through that door (open now) one could come in alone, too", AskEdges::turnedOpenNow);
        e.term("(a PASSING, too: one comes IN through it, nobody goes out).", AskEdges::turnedIsPassing);
        e.term("two PEOPLE who would both be nearer to their GOALS (LEFT less),", AskEdges::swapBothNearer);
        e.term("how many twos; the first.", AskEdges::swapCountAndFirst);
        e.term("other ROOMS to which one can come from it by going out alone, as bits.", AskEdges::outside);
        e.term("NOTES 0 to 9,", AskEdges::tenNotes);
        e.term("at the begin of the n-th MOMENT of all (0 to 60)", AskEdges::notesAtTheBegin);
        e.term("which of the RULES, and of none,", AskEdges::rulesAndNone);
        e.term("so that from the begin on, all as the text told it,", AskEdges::ruledFromTheBegin);
        e.term("all NOTES are so: how many;", AskEdges::allNotes);
        e.term("the first (none ahead of 0, told as NONE).", AskEdges::firstRuled);
        e.term("LOOK at the n-th MOMENT: the PERSON by whose ROOM these part best:", AskEdges::lookAtMoment);
        e.term("the most alike are fewest, of several the least; how many.", AskEdges::lookMostAlike);
        e.term("DRAWS: x (0 to 2147483647; 0 at first)", AskEdges::seeds);
        e.term("becomes x * 1103515245 + 12345, of 2147483648 the rest; a DRAW is x / 65536.", AskEdges::drawsGoRound);
        e.term("DAYS m times (1 to 10) n MOMENTS (1 to 60) from now on by the RULE IN FORCE:", AskEdges::daysFromNowOn);
        e.term("ahead of each a DRAW mod PEOPLE, a DRAW mod ROOMS: that one has that GOAL:", AskEdges::drawsAheadOfEach);
        e.term("how often somebody comes IN, goes OUT, all together", AskEdges::daysAllTogether);
        e.term("(without PEOPLE nothing is drawn;", AskEdges::daysWithoutPeople);
        e.term("nothing stays; x as it was).", AskEdges::nothingOfDaysStays);
        e.term("IMAGES 0 to 3:", AskEdges::fourImages);
        e.term("all but the TAPE and the RULES, as it is (the RULE IN FORCE, too);", AskEdges::allButTapeAndRules);
        e.term("gone back to, it is as it was (these stay;", AskEdges::asItWas);
        e.term("nothing can be UNDONE then).", AskEdges::nothingUndoneThen);
    }

    private static OutwardDoors forced(String castle, String rule) {
        OutwardDoors x = Check.with(castle, rule);
        x.force(0);
        return x;
    }

    private static void nothingChanges() {
        OutwardDoors x = forced(ROW + ";window 0 2;night 0 9", "go 1 if moment > 0");
        x.moment();
        x.note(1, 0, 2);
        x.seed(9);
        String before = Check.allOf(x);
        x.ahead(0, 100);
        x.comes(0);
        x.fewest(3);
        x.passing(3, 0, 0);
        x.caught(0);
        x.page(0, 0);
        x.price(0);
        x.turned(0, 3);
        x.swap(0);
        x.ruled(0);
        x.look(60, 0);
        x.days(10, 60, 0);
        x.room(0, 2);
        Check.due("all", Check.allOf(x), before);
        Check.due("the act is still there", x.undo(), 0);
    }

    private static void doorsAsNow() {
        OutwardDoors x = forced("castle 2;window 0 1;night 1 1;person 0 1 0;person 1 0 0", "go 0");
        for (int m = 0; m < 3; m++) {
            boolean night = m == 1;
            Check.due("fewest at " + m, x.fewest(1), night ? 1 : -2);
            Check.due("passing at " + m, x.passing(1, 0, 1), night ? 0 : -2);
            Check.due("caught at " + m, x.caught(0), night ? 0 : 3);
            Check.due("caught in their rooms at " + m, x.caught(1), night ? 0 : 3);
            Check.due("page at " + m, x.page(1, 1), night ? 1 : -2);
            Check.due("price at " + m, x.price(1), night ? 0 : -2);
            Check.due("turned at " + m, x.turned(0, 2), night ? 1 : -1);
            Check.due("swap at " + m, x.swap(0), 1);
            Check.due("outside at " + m, x.room(0, 2), night ? 2 : 0);
            x.moment();
        }
    }

    private static void doorsByMoments() {
        OutwardDoors x = Check.with("castle 2;window 0 1;night 2 2;person 0 1 0", "go 1");
        Check.due("ahead 2", x.ahead(0, 2), 0);
        Check.due("ahead 3", x.ahead(0, 3), 1);
        Check.due("comes", x.comes(0), 3);
        x.note(2, 0, 0);
        x.note(3, 0, 1);
        Check.due("ruled", x.ruled(0), 2);
        x.aim(0, 0);
        Check.due("days without a night", x.days(10, 2, 1), 0);
        Check.due("days with a night", x.days(10, 27, 1) > 0, true);
    }

    private static void zeroToHundredAhead() {
        OutwardDoors x = forced(ROW, "go 1 if moment = 98 or moment = 99");
        Check.due("0", x.ahead(1, 0), 0);
        Check.due("98", x.ahead(1, 98), 0);
        Check.due("99", x.ahead(1, 99), 1);
        Check.due("100", x.ahead(1, 100), 2);
        Check.due("101", x.ahead(1, 101), -1);
        Check.due("-1", x.ahead(1, -1), -1);
        x.moment();
        Check.due("from 1 on", x.ahead(1, 97), 0);
        Check.due("from 1 on", x.ahead(1, 98), 1);
    }

    private static void aheadByRule() {
        OutwardDoors x = Check.with(ROW, "go 0", "go 0 - 1");
        Check.due("by none", x.ahead(1, 1), 1);
        x.force(0);
        Check.due("by 0", x.ahead(1, 1), 0);
        x.force(1);
        x.aim(1, 0);
        Check.due("by 1", x.ahead(1, 1), 1);
        Check.due("to the end", x.ahead(1, 100), 2);
    }

    private static void comesFirst() {
        OutwardDoors x = forced("castle 3;door 0 1;door 1 2;person 0 1 0", "go 0 - 1");
        Check.due("on their way out", x.comes(0), 1);
        x.moment();
        Check.due("there", x.comes(0), 1);
        x.moment();
        Check.due("never again", x.comes(0), -2);
    }

    private static void comesNow() {
        OutwardDoors x = forced(ROW, "go 0");
        x.aim(0, 2);
        Check.due("at moment 0", x.comes(0), 0);
        x.moment();
        x.moment();
        Check.due("at moment 2", x.comes(0), 2);
        Check.due("the other one never", x.comes(1), -2);
    }

    private static void comesIn200() {
        String castle = "castle 2;door 0 1;person 0 1 0";
        Check.due("in the first", forced(castle, "go 1").comes(0), 1);
        Check.due("in the 199th", forced(castle, "go 1 if moment = 198").comes(0), 199);
        Check.due("in the 200th", forced(castle, "go 1 if moment = 199").comes(0), 200);
        Check.due("in the 201st", forced(castle, "go 1 if moment = 200").comes(0), -2);
        OutwardDoors x = forced(castle, "go 1 if moment = 200");
        x.moment();
        Check.due("in the 200th from now", x.comes(0), 201);
    }

    private static void fewestTogether() {
        OutwardDoors x = Check.with("castle 2;door 0 1;person 1 0 0;person 0 0 0");
        Check.due("one alone", x.fewest(1), 1);
        Check.due("the other alone", x.fewest(2), 0);
        Check.due("never both", x.fewest(3), -2);
        OutwardDoors y = Check.with(ROW + ";person 1 1 0");
        Check.due("one leaves their goal and comes back", y.fewest(7), 3);
        Check.due("that one alone", y.fewest(4), 0);
        Check.due("of none", y.fewest(0), 0);
        OutwardDoors z = Check.with(EIGHT + ";person 0 7 0;person 0 7 0;person 0 7 0;person 0 7 0");
        Check.due("four from end to end", z.fewest(15), 28);
        Check.due("the last of them", z.passing(15, 27, 0), 3);
        Check.due("no more", z.passing(15, 28, 0), -2);
        OutwardDoors all = Check.with("castle 2;person 0 0 0;person 1 1 0");
        Check.due("all there", all.fewest(3), 0);
        OutwardDoors outer = Check.with("castle 8;door 6 7;person 6 7 0;person 7 6 0");
        Check.due("one passing for both", outer.fewest(3), 1);
        Check.due("who comes in", outer.passing(3, 0, 2), 1);
    }

    private static void row(OutwardDoors x, int people, int[][] due) {
        Check.due("fewest of " + people, x.fewest(people), due.length);
        for (int k = 0; k < due.length; k++) {
            for (int what = 0; what < 3; what++) {
                Check.due("passing " + people + " " + k + " " + what, x.passing(people, k, what), due[k][what]);
            }
        }
        Check.due("no more", x.passing(people, due.length, 0), -2);
    }

    private static void rowByWhoGoesOut() {
        OutwardDoors x = Check.with("castle 3;door 0 1;door 1 2;person 0 1 0;person 0 2 0");
        row(x, 3, new int[][] {{0, 0, -1}, {1, 0, -1}, {1, 1, -1}});
        OutwardDoors y = Check.with("castle 2;door 0 1;person 1 0 0;person 0 0 0;person 0 0 0");
        row(y, 1, new int[][] {{1, 0, 0}});
        OutwardDoors z = Check.with("castle 3;door 1 2;door 0 2;person 0 2 0;person 1 2 0");
        row(z, 3, new int[][] {{0, 1, -1}, {1, 0, -1}});
    }

    private static void rowByDoor() {
        OutwardDoors x = Check.with("castle 4;door 0 2;door 0 1;door 2 3;door 1 3;person 0 3 0");
        row(x, 1, new int[][] {{0, 0, -1}, {0, 2, -1}});
        OutwardDoors y = Check.with("castle 4;door 0 1;door 2 3;door 0 2;door 1 3;person 0 3 0");
        row(y, 1, new int[][] {{0, 0, -1}, {0, 3, -1}});
        OutwardDoors z = Check.with("castle 4;door 0 1;door 0 2;door 2 3;person 0 3 0");
        row(z, 1, new int[][] {{0, 1, -1}, {0, 2, -1}});
    }

    private static void rowByWhoComesIn() {
        OutwardDoors x = Check.with("castle 2;door 0 1;person 1 1 0;person 0 1 0");
        row(x, 2, new int[][] {{1, 0, -1}});
        OutwardDoors y = Check.with("castle 2;door 0 1;person 1 0 0;person 1 0 0;person 0 0 0;person 0 0 0");
        row(y, 3, new int[][] {{2, 0, 0}, {3, 0, 1}});
        row(y, 2, new int[][] {{2, 0, 1}});
        OutwardDoors z = Check.with("castle 2;door 0 1;person 1 0 0;person 0 1 0");
        row(z, 2, new int[][] {{1, 0, -1}});
        row(z, 3, new int[][] {{1, 0, 0}});
    }

    private static void caughtFromGoal() {
        OutwardDoors x = Check.with("castle 3;door 0 1;person 1 0 0;person 1 1 0;person 2 2 0;person 2 0 0");
        Check.due("nobody to let them in", x.caught(0), 9);
        OutwardDoors y = Check.with("castle 2;door 0 1;person 1 0 0;person 0 1 0;person 0 0 0");
        Check.due("each by each", y.caught(0), 0);
        OutwardDoors z = Check.with("castle 2;door 0 1;person 1 0 0;person 0 0 0");
        Check.due("each alone, though never together", z.caught(0), 0);
        Check.due("without people", Check.with("castle 2").caught(0), 0);
        OutwardDoors four = Check.with("castle 2;person 0 1 0;person 0 1 0;person 1 0 0;person 1 0 0");
        Check.due("all four", four.caught(0), 15);
    }

    private static void caughtInRoom() {
        OutwardDoors x = Check.with("castle 3;door 0 1;person 1 0 0;person 1 1 0;person 2 2 0;person 2 0 0");
        Check.due("all", x.caught(1), 15);
        OutwardDoors y = Check.with("castle 3;door 0 1;person 0 0 0;person 1 1 0;person 2 2 0");
        Check.due("one out, one in, one caught", y.caught(1), 4);
        Check.due("all are at their goals", y.caught(0), 0);
        Check.due("without people", Check.with("castle 2;door 0 1").caught(1), 0);
    }

    private static void page(String castle, int person, int room, int passings) {
        OutwardDoors x = Check.with(castle);
        Check.due("page " + person + " of " + castle, x.page(person, 0), room);
        Check.due("passings " + person + " of " + castle, x.page(person, 1), passings);
    }

    private static void pageMakesLeast() {
        page("castle 3;door 0 2;door 1 2;person 2 1 0", 0, 1, 1);
        page("castle 2;door 0 1;person 1 0 0;person 0 0 0", 0, 0, 1);
        page("castle 3;door 0 1;door 1 2;person 2 0 0", 0, -2, -2);
        page("castle 3;door 0 1;door 1 2;person 2 0 0;person 0 0 0", 0, 1, 2);
        page("castle 8;door 6 7;person 7 6 0;person 0 0 0;person 0 0 0;person 0 0 0", 0, 6, 1);
        page("castle 2;person 0 1 0", 0, -2, -2);
        String four = "castle 8;door 4 5;door 5 6;door 2 7;person 0 0 0;person 5 4 0;person 4 6 0;person 7 2 0";
        page(four, 1, 0, 1);
        page(four, 2, 0, 2);
        page(four, 3, 2, 1);
        page("castle 8;door 4 5;person 5 5 0;person 5 4 0;person 3 3 0", 1, 4, 1);
    }

    private static void pageInLeastRoom() {
        page("castle 4;door 1 3;door 2 3;far 0 5;door 1 0;door 2 0;person 3 0 0", 0, 1, 2);
        page("castle 4;door 0 1;person 0 1 0", 0, 0, 1);
        page("castle 4;door 0 1;person 3 3 0", 0, 0, 0);
    }

    private static void priceOfOthers() {
        Check.due("one's own", Check.with("castle 2;door 0 1;person 0 1 50").price(0), 0);
        Check.due("at the goal", Check.with("castle 2;door 0 1;person 0 0 50;person 0 0 50").price(0), 0);
        Check.due("one other", Check.with("castle 2;door 0 1;person 1 0 50;person 0 0 50").price(0), 50);
        Check.due("one other for nothing", Check.with("castle 2;door 0 1;person 1 0 5;person 0 0 0").price(0), 0);
        Check.due("the cheaper other", Check.with("castle 2;door 0 1;person 1 0 5;person 0 0 9;person 0 0 8").price(0), 8);
        Check.due("one who comes in asks nothing",
            Check.with("castle 2;door 0 1;person 0 1 5;person 1 0 9").price(0), 0);
        Check.due("nobody", Check.with("castle 2;door 0 1;person 1 0 5").price(0), -2);
        Check.due("more passings for less",
            Check.with("castle 3;door 0 1;door 1 2;person 2 0 0;person 1 1 50;person 0 0 3;person 0 0 4").price(0), 10);
        // Person 2 goes for nothing but once: to let 0 in both times somebody else must go, and 3 asks least.
        OutwardDoors x = Check.with("castle 4;door 0 1;door 1 2;door 1 3;person 3 0 3;person 1 2 6;person 0 3 0;person 1 1 2");
        Check.due("of many ways the cheapest", x.price(0), 2);
        Check.due("the others go by themselves", x.price(1) + x.price(2) + x.price(3), 0);
    }

    private static void priceEachTime() {
        String row = "castle 4;door 0 1;door 1 2;door 2 3;person 3 0 50";
        OutwardDoors x = Check.with(row + ";person 0 0 50;person 0 0 50;person 0 0 50");
        Check.due("six times 50", x.price(0), 300);
        Check.due("in six passings", x.fewest(1), 6);
        OutwardDoors y = Check.with(row + ";person 0 0 20;person 0 0 30;person 0 0 10");
        Check.due("the cheapest goes three times", y.price(0), 100);
        OutwardDoors z = Check.with("castle 3;door 0 1;door 1 2;person 2 0 50;person 0 0 7;person 0 0 3");
        Check.due("twice 3 and once 7", z.price(0), 13);
    }

    private static void turnedOpenNow() {
        OutwardDoors x = forced("castle 3;window 0 1;far 2 1;door 1 2;night 1 1;person 1 0 0", "go 0");
        Check.due("a window by day", x.turned(0, 1), -1);
        Check.due("one that nobody passes", x.turned(1, 1), -1);
        x.moment();
        Check.due("a window by night", x.turned(0, 1), 1);
        Check.due("one that nobody passes", x.turned(1, 1), -1);
        x.moment();
        Check.due("by day again", x.turned(0, 1), -1);
    }

    private static void turnedIsPassing() {
        OutwardDoors x = Check.with("castle 2;door 0 1;person 1 0 0;person 1 0 0");
        Check.due("one alone", x.turned(0, 1), 1);
        Check.due("two, one by one", x.turned(0, 3), 2);
        Check.due("of none", x.turned(0, 0), 0);
        Check.due("as it is, they can't", x.fewest(1), -2);
        OutwardDoors y = Check.with("castle 3;door 0 1;door 1 2;person 2 0 0");
        Check.due("through the other door they can't", y.turned(0, 1), -2);
        Check.due("through the other door they can't", y.turned(1, 1), -2);
        OutwardDoors z = Check.with("castle 3;door 0 1;door 1 2;person 0 2 0;person 1 0 0");
        Check.due("no fewer than without", z.turned(0, 3), 2);
        Check.due("without", z.fewest(3), 2);
        Check.due("out as before", z.turned(1, 1), 2);
    }

    private static void swaps(String castle, int twos, int lesser, int greater) {
        OutwardDoors x = Check.with(castle);
        Check.due("twos of " + castle, x.swap(0), twos);
        Check.due("lesser of " + castle, x.swap(1), lesser);
        Check.due("greater of " + castle, x.swap(2), greater);
    }

    private static void swapBothNearer() {
        swaps(ROW, 1, 0, 1);
        swaps("castle 3;door 0 1;door 1 2;person 2 0 0;person 1 0 0", 0, -2, -2);
        swaps("castle 3;door 0 1;door 1 2;person 1 0 0;person 1 2 0", 0, -2, -2);
        swaps("castle 4;door 0 1;door 1 2;door 2 3;person 0 1 0;person 2 1 0", 0, -2, -2);
        swaps("castle 2;person 0 1 0;person 1 0 0", 1, 0, 1);
        swaps("castle 4;door 0 1;door 2 3;person 0 3 0;person 2 0 0", 1, 0, 1);
        swaps("castle 4;door 0 1;person 0 3 0;person 2 0 0", 0, -2, -2);
        swaps("castle 2;door 0 1;person 0 0 0;person 1 0 0", 0, -2, -2);
    }

    private static void swapCountAndFirst() {
        swaps("castle 2;door 0 1;person 0 1 0;person 0 1 0;person 1 0 0;person 1 0 0", 4, 0, 2);
        swaps("castle 2;door 0 1;person 0 0 0;person 0 1 0;person 1 1 0;person 1 0 0", 1, 1, 3);
        swaps("castle 2;door 0 1;person 0 0 0;person 0 0 0;person 0 1 0;person 1 0 0", 1, 2, 3);
        swaps("castle 2;door 0 1;person 0 1 0;person 1 1 0;person 0 1 0;person 1 0 0", 2, 0, 3);
        swaps("castle 2;door 0 1;person 0 1 0", 0, -2, -2);
        swaps("castle 2;door 0 1", 0, -2, -2);
    }

    private static void outside() {
        OutwardDoors x = Check.with(EIGHT);
        for (int r = 0; r < 8; r++) {
            Check.due("outside of " + r, x.room(r, 2), 255 - ((1 << r + 1) - 1));
        }
        OutwardDoors y = Check.with("castle 4;far 3 0;door 0 1;door 3 1;far 2 1;door 1 2;window 0 2;night 0 0");
        Check.due("through a window by night", y.room(0, 2), 6);
        Check.due("not in again, not to one as far", y.room(3, 2), 2);
        y.moment();
        Check.due("not through a window by day", y.room(0, 2), 2);
        Check.due("without doors", Check.with("castle 2").room(0, 2), 0);
    }

    private static void tenNotes() {
        OutwardDoors x = Check.with("castle 2;person 0 0 0");
        for (int k = 1; k <= 10; k++) {
            Check.due("a note", x.note(k, 0, 0), k);
        }
        Check.nothingHappens(x, "an 11th", y -> y.note(0, 0, 1), -2);
        Check.due("all ten are so", x.ruled(0), 1);
        Check.due("none", x.note(-1, 0, 0), 0);
        for (int k = 1; k < 10; k++) {
            x.note(0, 0, 0);
        }
        Check.due("a tenth", x.note(60, 0, 1), 10);
        Check.due("the tenth is not so", x.ruled(0), 0);
    }

    private static int ruledWith(int n, int room) {
        OutwardDoors x = forced("castle 2;door 0 1;person 0 1 0", "go 1 if moment = 59");
        x.note(1, 0, 0);
        Check.due("note at " + n, x.note(n, 0, room), 2);
        return x.ruled(0);
    }

    private static void notesAtTheBegin() {
        Check.due("at 59 not yet", ruledWith(59, 0), 1);
        Check.due("at 59 not yet", ruledWith(59, 1), 0);
        Check.due("at 60", ruledWith(60, 1), 1);
        Check.due("at 60", ruledWith(60, 0), 0);
        OutwardDoors x = Check.with("castle 2;door 0 1;person 0 1 0");
        x.note(0, 0, 0);
        Check.due("at 0, ahead of the first moment", x.ruled(0), 1);
        x.note(0, 0, 1);
        Check.due("at 0 in one room alone", x.ruled(0), 0);
        Check.due("61", x.note(61, 0, 0), -2);
        Check.due("-2", x.note(-2, 0, 0), -2);
    }

    private static void rulesAndNone() {
        OutwardDoors x = Check.with("castle 2;door 0 1;person 0 1 0");
        Check.due("none alone", x.ruled(0), 1);
        for (int k = 1; k <= 6; k++) {
            Check.rule(x, "go 0");
            Check.due("and rules", x.ruled(0), k + 1);
        }
        x.note(1, 0, 1);
        Check.due("none alone is so", x.ruled(0), 1);
        x.note(-1, 0, 0);
        x.note(1, 0, 0);
        Check.due("the six alone are so", x.ruled(0), 6);
    }

    private static void ruledFromTheBegin() {
        OutwardDoors x = Check.with("castle 3;door 0 1;door 0 2;person 0 1 0", "go 0", "go 1");
        x.note(1, 0, 1);
        x.aim(0, 2);
        x.moment();
        x.moment();
        x.force(0);
        Check.due("by the goal told", x.ruled(0), 2);
        Check.due("none is the first", x.ruled(1), -1);
        x.note(1, 0, 2);
        Check.due("not by the other goal", x.ruled(0), 0);
    }

    private static void allNotes() {
        OutwardDoors x = Check.with(ROW, "go 1 if person = 1", "go 0", "go 1");
        x.note(2, 1, 2);
        Check.due("none, 0 and 2", x.ruled(0), 3);
        x.note(2, 0, 2);
        Check.due("0 alone", x.ruled(0), 1);
        Check.due("0", x.ruled(1), 0);
        x.note(0, 1, 2);
        Check.due("none such", x.ruled(0), 0);
        Check.due("none such", x.ruled(1), -2);
    }

    private static void firstRuled() {
        OutwardDoors x = Check.with("castle 2;door 0 1;person 0 1 0", "go 0", "go 1", "go 0");
        Check.due("none ahead of 0", x.ruled(1), -1);
        x.note(1, 0, 0);
        Check.due("0 ahead of 2", x.ruled(1), 0);
        x.note(-1, 0, 0);
        x.note(1, 0, 1);
        Check.due("none ahead of 1", x.ruled(1), -1);
    }

    private static void lookAtMoment() {
        OutwardDoors x = Check.with("castle 2;door 0 1;person 0 0 0;person 0 1 0", "go 1 if moment = 59", "go 0");
        Check.due("at 0 none parts", x.look(0, 0), 0);
        Check.due("at 0 all are alike", x.look(0, 1), 3);
        Check.due("at 1 by 1", x.look(1, 0), 1);
        Check.due("at 59 two are alike", x.look(59, 1), 2);
        Check.due("at 60 two others are", x.look(60, 1), 2);
        x.note(1, 1, 0);
        Check.due("at 59 both rules are alike", x.look(59, 1), 2);
        Check.due("at 59 by the least", x.look(59, 0), 0);
        Check.due("at 60 each for itself", x.look(60, 1), 1);
        Check.due("at 60 by 1", x.look(60, 0), 1);
        Check.due("61", x.look(61, 0), -1);
        x.moment();
        Check.due("of all, not from now", x.look(60, 1), 1);
    }

    private static void lookMostAlike() {
        OutwardDoors x = Check.with("castle 4;door 0 1;door 0 2;door 0 3;person 0 1 0;person 0 2 0;person 0 3 0",
            "go 1 if person = 2", "go 1 if person = 1", "go 0", "go 1 if person < 2");
        Check.due("0 parts 2 and 3, 1 3 and 2, 2 2 and 3", x.look(1, 1), 3);
        Check.due("of several the least", x.look(1, 0), 0);
        Check.rule(x, "go 1 if person > 0");
        Check.due("1 parts 4 and 2, 0 2 and 4, 2 3 and 3", x.look(1, 1), 3);
        Check.due("2 parts best", x.look(1, 0), 2);
        OutwardDoors four = Check.with("castle 8;door 6 7;person 7 7 0;person 0 0 0;person 0 0 0;person 6 7 0", "go 0");
        Check.due("of four the last", four.look(1, 0), 3);
        Check.due("one and one", four.look(1, 1), 1);
        OutwardDoors six = Check.with("castle 2;person 0 0 0", "go 0", "go 0", "go 0", "go 0", "go 0", "go 0");
        Check.due("all seven alike", six.look(60, 1), 7);
        Check.due("one person", six.look(60, 0), 0);
    }

    private static void seeds() {
        OutwardDoors x = new OutwardDoors();
        Check.due("at first", x.count(11), 0);
        Check.due("to the greatest", x.seed(2147483647), 0);
        Check.due("the greatest", x.count(11), 2147483647);
        Check.due("below 0", x.seed(-1), -1);
        Check.due("below 0", x.seed(-2147483648), -1);
        Check.due("as it was", x.count(11), 2147483647);
        Check.due("to 0", x.seed(0), 2147483647);
        Check.due("0", x.count(11), 0);
    }

    /** DAYS by aims and moments of objects of their own, each anew for each time. */
    private static int[] daysByHand(String castle, int seed, int m, int n) {
        long x = seed;
        int[] inAndOut = new int[2];
        for (int time = 0; time < m; time++) {
            OutwardDoors y = Check.with(castle);
            for (int k = 0; k < n; k++) {
                x = (x * 1103515245L + 12345L) % 2147483648L;
                int who = (int) (x / 65536 % y.count(2));
                x = (x * 1103515245L + 12345L) % 2147483648L;
                y.aim(who, (int) (x / 65536 % y.count(0)));
                y.moment();
            }
            inAndOut[0] += y.count(7);
            inAndOut[1] += y.count(8);
        }
        return inAndOut;
    }

    private static void daysAsByHand(String castle, int seed, int m, int n) {
        int[] due = daysByHand(castle, seed, m, n);
        OutwardDoors x = Check.with(castle);
        x.seed(seed);
        Check.due("in: days " + m + " " + n + " by " + seed + " of " + castle, x.days(m, n, 0), due[0]);
        Check.due("out: days " + m + " " + n + " by " + seed + " of " + castle, x.days(m, n, 1), due[1]);
    }

    private static void drawsGoRound() {
        String castle = "castle 7;door 0 1;door 0 2;door 1 3;door 3 4;door 2 5;door 5 6;door 2 6"
            + ";person 0 0 0;person 6 6 0;person 3 3 0";
        int[] seeds = {0, 1, 2, 5, 65535, 65536, 1073741823, 1073741824, 2147483646, 2147483647};
        for (int seed : seeds) {
            daysAsByHand(castle, seed, 2, 10);
        }
    }

    private static void daysFromNowOn() {
        String castle = "castle 3;door 0 1;door 1 2;person 0 0 0;person 2 2 0;person 1 1 0";
        daysAsByHand(castle, 3, 1, 1);
        daysAsByHand(castle, 3, 10, 1);
        daysAsByHand(castle, 3, 1, 60);
        daysAsByHand(castle, 3, 10, 60);
        OutwardDoors x = forced(castle, "go 0");
        Check.due("by a rule", x.days(10, 60, 1), 0);
        Check.due("m 0", x.days(0, 1, 0), -1);
        Check.due("m 11", x.days(11, 1, 0), -1);
        Check.due("n 0", x.days(1, 0, 0), -1);
        Check.due("n 61", x.days(1, 61, 0), -1);
    }

    private static void drawsAheadOfEach() {
        for (int people = 1; people <= 4; people++) {
            for (int rooms = 2; rooms <= 8; rooms++) {
                String castle = EIGHT.replace("castle 8", "castle " + rooms).substring(0, 8 + 9 * (rooms - 1));
                daysAsByHand(castle + ";person 0 1 3;person 1 0 3;person 0 0 3;person 1 1 3"
                    .substring(0, 13 * people), 7 * rooms + people, 2, 4);
            }
        }
    }

    private static void daysAllTogether() {
        String castle = "castle 2;door 0 1;person 0 0 0;person 1 1 0;person 0 1 0;person 1 0 0";
        daysAsByHand(castle, 11, 3, 9);
        OutwardDoors x = Check.with(castle);
        x.moment();
        Check.due("from now on alone: not what was ahead", x.days(1, 1, 1) <= 2, true);
    }

    private static void daysWithoutPeople() {
        OutwardDoors x = Check.with("castle 2;door 0 1");
        x.seed(5);
        Check.due("in", x.days(10, 60, 0), 0);
        Check.due("out", x.days(10, 60, 1), 0);
        Check.due("x", x.count(11), 5);
        Check.due("m 11", x.days(11, 60, 1), -1);
    }

    private static void nothingOfDaysStays() {
        OutwardDoors x = Check.with("castle 3;door 0 1;door 1 2;person 0 0 0;person 2 2 0;person 1 1 0");
        x.seed(77);
        x.moment();
        String before = Check.allOf(x);
        int first = x.days(4, 30, 1);
        Check.due("all", Check.allOf(x), before);
        Check.due("once more the same", x.days(4, 30, 1), first);
    }

    private static void fourImages() {
        OutwardDoors x = forced("castle 2", "go 0");
        for (int k = 0; k < 4; k++) {
            Check.due("never made " + k, x.back(k), -1);
            Check.due("image " + k, x.image(k), k);
            x.moment();
        }
        for (int k = 3; k >= 0; k--) {
            Check.due("back to " + k, x.back(k), k);
            Check.due("moment", x.count(5), k);
        }
        Check.due("image 4", x.image(4), -1);
        Check.due("image -1", x.image(-1), -1);
        Check.due("back 4", x.back(4), -1);
        Check.due("back -1", x.back(-1), -1);
        x.back(3);
        Check.due("made anew", x.image(0), 3);
        Check.due("back to the new one", x.back(0), 3);
        Check.due("the others are as they were", x.back(1), 1);
    }

    private static void allButTapeAndRules() {
        OutwardDoors x = Check.with(ROW, "go 1");
        x.force(0);
        x.seed(9);
        x.moment();
        x.aim(0, 1);
        x.note(1, 1, 1);
        x.image(0);
        String before = Check.allOf(x);
        Check.castle(x, "castle 5;window 3 4;night 0 9;person 4 4 4");
        Check.rule(x, "go 2");
        x.force(1);
        x.seed(10);
        Check.tell(x, "castle 2");
        x.back(0);
        String due = before.replace("count3=1", "count3=2").replace("count10=2", "count10=0")
            .replace("count12=0", "count12=8").replace("ruled=2", "ruled=3");
        Check.due("all as in the image", Check.allOf(x), due);
        Check.due("the tape is as it was behind", x.castle(), 0);
        Check.due("rooms", x.count(0), 2);
        Check.due("the rules, too", x.force(1), 0);
    }

    private static void asItWas() {
        OutwardDoors x = Check.with(ROW);
        x.image(2);
        x.moment();
        x.note(0, 0, 0);
        x.aim(0, 1);
        Check.due("back", x.back(2), 0);
        Check.due("no note", x.count(9), 0);
        Check.due("goal", x.person(0, 1), 0);
        x.moment();
        x.note(0, 0, 0);
        Check.due("back once more", x.back(2), 0);
        Check.due("no note", x.count(9), 0);
        Check.due("room", x.person(1, 0), 0);
        x.note(1, 1, 1);
        x.image(3);
        x.note(-1, 0, 0);
        x.note(1, 1, 0);
        Check.due("another note is not so", x.ruled(0), 0);
        Check.due("back to the note", x.back(3), 0);
        Check.due("its moment, person and room", x.ruled(0), 1);
        x.note(-1, 0, 0);
        x.note(0, 0, 0);
        x.back(3);
        Check.due("its moment, person and room", x.ruled(0), 1);
        OutwardDoors y = new OutwardDoors();
        Check.due("an image without a castle", y.image(0), 0);
        Check.castle(y, ROW);
        y.moment();
        Check.due("back to none", y.back(0), 0);
        Check.due("no castle", y.count(0), 0);
        Check.due("no people", y.person(0, 0), -2);
        Check.due("no moment", y.moment(), -1);
    }

    private static void nothingUndoneThen() {
        OutwardDoors x = Check.with(ROW);
        x.moment();
        x.image(0);
        x.moment();
        Check.due("two acts", x.count(10), 2);
        x.back(0);
        Check.due("no acts", x.count(10), 0);
        Check.due("undo", x.undo(), -1);
        Check.due("moment", x.count(5), 1);
        x.moment();
        Check.due("one act", x.undo(), 0);
        Check.due("as in the image", x.count(5), 1);
        x.moment();
        Check.due("back to one never made", x.back(1), -1);
        Check.due("the act can be undone still", x.undo(), 0);
    }
}
