/** Edges of what a RULE's text may tell, of its FAULTS, and of what its WORDS and signs are worth. */
final class RuleEdges {
    /** Person 0 is in 1: above 0 they come to 3, below 0 to 2, at 0 they stay. */
    private static final String FORK = "castle 4;door 1 2;door 1 3;person 1 3 0";

    private RuleEdges() {
    }

    static void tell(Edges e) {
        e.term("RULES 0 to 5:", RuleEdges::sixRules);
        e.term("texts likewise,", RuleEdges::fullText);
        e.term("12 CLAUSES at most:", RuleEdges::twelveClauses);
        e.term("go SUM [ if TEST ].", RuleEdges::withAndWithoutTest);
        e.term("TEST: PART { or PART }.", RuleEdges::orOfParts);
        e.term("PART: FACT { and FACT }.", RuleEdges::andOfFacts);
        e.term("FACT: not FACT", RuleEdges::notOfOneFact);
        e.term("[ TEST ] (these brackets are signs)", RuleEdges::brackets);
        e.term("SIGN one of < <= = >= >.", RuleEdges::signs);
        e.term("SUM: TERM { (+ or -) TERM }.", RuleEdges::sums);
        e.term("TERM: VALUE { (* or / or %) VALUE }.", RuleEdges::terms);
        e.term("NUMBER (1 to 5 digits,", RuleEdges::oneToFiveDigits);
        e.term("as far as digits go on)", RuleEdges::digitsGoOn);
        e.term("WORDS (small letters, as far as these go on)", RuleEdges::lettersGoOn);
        e.term("of a PERSON: person, room, far (of their ROOM), goal (the ROOM),", RuleEdges::wordsOfPlace);
        e.term("left (PASSINGS to their GOAL, if all doors that are open now opened both ways;", RuleEdges::wordLeft);
        e.term("99 if there is no way)", RuleEdges::wordLeftWithoutWay);
        e.term("pay, moment,", RuleEdges::wordsPayAndMoment);
        e.term("night (1, or 0),", RuleEdges::wordNight);
        e.term("here (others in their ROOM),", RuleEdges::wordHere);
        e.term("in, out (how often they came in, went out so far),", RuleEdges::wordsInAndOut);
        e.term("asked (others whose STEP is into their ROOM through a door from farther out).", RuleEdges::wordAsked);
        e.term("/ is towards 0,", RuleEdges::overTowardsZero);
        e.term("% its rest,", RuleEdges::restOfOver);
        e.term("both 0 by 0;", RuleEdges::byZero);
        e.term("all goes round in 64 bits.", RuleEdges::roundIn64Bits);
        e.term("Blanks (32) stand between as one likes.", RuleEdges::blanks);
        e.term("[ and not lie within one another 10 deep at most;", RuleEdges::tenDeep);
        e.term("at most 60 VALUES (of SUMS) and FACTS made of a SIGN, together.", RuleEdges::sixtyParts);
        e.term("FAULTS, the first along the text,", RuleEdges::firstAlongTheText);
        e.term("1 + 8 * its place and:", RuleEdges::placesOfFaults);
        e.term("0 a byte or WORD that can't stand there,", RuleEdges::bytesThatCanNotStand);
        e.term("0 a byte or WORD that can't stand there,", RuleEdges::wordsThatCanNotStand);
        e.term("or the end (behind the last byte);", RuleEdges::endTooEarly);
        e.term("1 a NUMBER of more digits,", RuleEdges::moreDigits);
        e.term("2 too deep (at the sign that opens, or the word not);", RuleEdges::tooDeep);
        e.term("3 one VALUE or FACT too many (at its first byte; of a FACT at its SIGN);", RuleEdges::onePartTooMany);
        e.term("4 one CLAUSE too many,", RuleEdges::clauseTooMany);
        e.term("Of one place the least.", RuleEdges::ofOnePlaceTheLeast);
    }

    private static void bad(String text, int place, int kind) {
        OutwardDoors x = new OutwardDoors();
        Check.due("rule '" + text + "'", Check.rule(x, text), Check.fault(place, kind));
        Check.due("rules behind '" + text + "'", x.count(3), 0);
    }

    private static void good(String text) {
        Check.due("rule '" + text + "'", Check.rule(new OutwardDoors(), text), 0);
    }

    /** 1, 0 or -1: whether the rule's sum is above, at or below 0 for person 0 of FORK. */
    private static int signOf(String rule) {
        OutwardDoors x = Check.with(FORK, rule);
        x.force(0);
        int room = x.ahead(0, 1);
        return room == 1 ? 0 : room == 3 ? 1 : -1;
    }

    private static void holds(String test) {
        Check.due(test, signOf("go 1 if " + test), 1);
        Check.due("not " + test, signOf("go 1 if not [" + test + "]"), 0);
    }

    private static void fails(String test) {
        Check.due(test, signOf("go 1 if " + test), 0);
        Check.due("not " + test, signOf("go 1 if not [" + test + "]"), 1);
    }

    private static void sixRules() {
        OutwardDoors x = Check.with(FORK);
        for (int k = 0; k < 6; k++) {
            Check.due("rule " + k, Check.rule(x, k == 5 ? "go 1" : "go 0"), k);
            Check.due("rules", x.count(3), k + 1);
        }
        Check.due("a seventh", Check.rule(x, "go 0 - 1"), -1);
        Check.due("rules", x.count(3), 6);
        x.force(5);
        Check.due("the sixth is as told", x.ahead(0, 1), 3);
        x.force(4);
        Check.due("the fifth, too", x.ahead(0, 1), 1);
    }

    private static void fullText() {
        Check.due("the 400th byte is read", signOf("go 1 if 0 = 1;go" + " ".repeat(383) + "1"), 1);
        good(" ".repeat(396) + "go 1");
        good("go 1" + " ".repeat(396));
        bad("go 1" + " ".repeat(395) + ";", 400, 0);
    }

    private static void twelveClauses() {
        String eleven = "go 1 if 0=1" + ";go 1 if 0=1".repeat(10);
        Check.due("the 12th is told", signOf(eleven + ";go 1"), 1);
        bad(eleven + ";go 1;go 1", eleven.length() + 6, 4);
        bad("go 1;go 1;go 1;go 1;go 1;go 1;go 1;go 1;go 1;go 1;go 1;go 1;", 60, 0);
    }

    private static void withAndWithoutTest() {
        Check.due("without", signOf("go 1"), 1);
        Check.due("with one that holds", signOf("go 1 if 1 = 1"), 1);
        Check.due("with one that does not", signOf("go 1 if 1 = 0"), 0);
        bad("go if 1 = 1", 3, 0);
        bad("go 1 if", 7, 0);
        bad("go 1 if 1 = 1 if 1 = 1", 14, 0);
        bad("go 1 if 5", 9, 0);
    }

    private static void orOfParts() {
        holds("1 = 0 or 1 = 0 or 1 = 1");
        holds("1 = 1 or 1 = 0 or 1 = 0");
        fails("1 = 0 or 1 = 0 or 1 = 0");
        holds("1 = 1 or 1 = 1");
    }

    private static void andOfFacts() {
        holds("1 = 1 and 1 = 1 and 1 = 1");
        fails("1 = 1 and 1 = 1 and 1 = 0");
        fails("1 = 0 and 1 = 1 and 1 = 1");
        holds("1 = 1 or 1 = 1 and 1 = 0");
        holds("1 = 0 and 1 = 1 or 1 = 1");
        fails("1 = 0 or 1 = 1 and 1 = 0");
    }

    private static void notOfOneFact() {
        holds("not 1 = 0");
        fails("not 1 = 1");
        holds("not not 1 = 1");
        fails("not 1 = 0 and 1 = 0");
        holds("not 1 = 1 or 1 = 1");
        fails("not [1 = 1 or 1 = 0]");
    }

    private static void brackets() {
        fails("[1 = 1 or 1 = 1] and 1 = 0");
        holds("1 = 1 and [1 = 0 or 1 = 1]");
        holds("[[1 = 1]]");
        fails("1 = 1 and [1 = 0]");
        fails("1 = 1 and [1 = 1 and 1 = 0]");
        holds("1 = 0 or [1 = 1]");
        bad("go 1 if []", 9, 0);
        bad("go 1 if [1 = 1", 14, 0);
        bad("go 1 if 1 = 1]", 13, 0);
        bad("go 1 if (1 = 1)", 8, 0);
        bad("go 1 if [1] = 1", 10, 0);
        bad("go [1]", 3, 0);
        bad("go 1 [if 1 = 1]", 5, 0);
    }

    private static void signs() {
        String[] marks = {"<", "<=", "=", ">=", ">"};
        boolean[][] due = {{true, true, false, false, false}, {false, true, true, true, false},
            {false, false, false, true, true}};
        for (int left = 4; left <= 6; left++) {
            for (int k = 0; k < 5; k++) {
                if (due[left - 4][k]) {
                    holds(left + marks[k] + "5");
                } else {
                    fails(left + marks[k] + "5");
                }
            }
        }
        bad("go 1 if 1 == 1", 11, 0);
        bad("go 1 if 1 =< 1", 11, 0);
        bad("go 1 if 1 => 1", 11, 0);
        bad("go 1 if 1 <> 1", 11, 0);
        bad("go 1 if 1 < = 1", 12, 0);
        bad("go 1 if 1 > = 1", 12, 0);
        bad("go 1 if 1 ! 1", 10, 0);
        bad("go 1 if 1 < 2 < 3", 14, 0);
    }

    private static void sums() {
        holds("7 = 7");
        holds("10 - 3 - 2 = 5");
        holds("10 - 3 + 2 = 9");
        holds("2 + 3 * 4 = 14");
        holds("2 * 3 + 4 = 10");
        holds("20 - 6 / 2 = 17");
        bad("go - 1", 3, 0);
        bad("go + 1", 3, 0);
        bad("go 1 -", 6, 0);
        bad("go 1 + + 1", 7, 0);
        bad("go 1 * - 1", 7, 0);
    }

    private static void terms() {
        holds("100 / 10 / 5 = 2");
        holds("100 / 10 * 5 = 50");
        holds("17 % 10 % 4 = 3");
        holds("7 * 5 % 4 = 3");
        holds("7 % 4 * 5 = 15");
        bad("go 1 *", 6, 0);
        bad("go * 1", 3, 0);
        bad("go 1 ** 1", 6, 0);
    }

    private static void oneToFiveDigits() {
        holds("0 = 00000");
        holds("9 = 00009");
        holds("99999 - 1 = 99998");
        holds("10000 = 100 * 100");
        bad("go 100000", 3, 1);
        bad("go 000001", 3, 1);
    }

    private static void digitsGoOn() {
        bad("go 1234567", 3, 1);
        bad("go 12345 6", 9, 0);
        Check.due("a word goes on behind digits", signOf("go 1if 1=1"), 1);
        bad("go 1here", 4, 0);
        bad("go 1 2", 5, 0);
    }

    private static void lettersGoOn() {
        bad("go herefar", 3, 0);
        bad("go her", 3, 0);
        bad("go Here", 3, 0);
        bad("go hEre", 3, 0);
        bad("goo 1", 0, 0);
        bad("g 1", 0, 0);
        bad("go 1 iff 1 = 1", 5, 0);
        bad("go 1 if nothere = 1", 8, 0);
        bad("go in2", 5, 0);
        good("go1if1=1and2=2or not3=3");
        bad("gohere", 0, 0);
    }

    private static OutwardDoors forced(String castle, String rule) {
        OutwardDoors x = Check.with(castle, rule);
        x.force(0);
        return x;
    }

    /** Whether a test holds for each of the people, as bits: each is in a room with one door out, to 7. */
    private static int holdFor(String people, String test) {
        OutwardDoors x = forced("castle 8;door 0 7;door 1 7;door 2 7;door 3 7;" + people, "go 0 - 1 if " + test);
        int bits = 0;
        for (int p = 0; p < x.count(2); p++) {
            bits |= x.ahead(p, 1) == 7 ? 1 << p : 0;
        }
        return bits;
    }

    private static void wordsOfPlace() {
        String four = "person 0 0 0;person 1 7 0;person 2 2 0;person 3 6 0;far 3 6;far 7 9";
        Check.due("person 0", holdFor(four, "person = 0"), 1);
        Check.due("person 3", holdFor(four, "person = 3"), 8);
        Check.due("room 0", holdFor(four, "room = 0"), 1);
        Check.due("room 3", holdFor(four, "room = 3"), 8);
        Check.due("far as told", holdFor(four, "far = 6"), 8);
        Check.due("far untold", holdFor(four, "far = 2"), 4);
        Check.due("goal 7", holdFor(four, "goal = 7"), 2);
        Check.due("goal 0", holdFor(four, "goal = 0"), 1);
        OutwardDoors x = forced("castle 3;door 0 1;door 0 2;person 0 0 0", "go goal");
        Check.due("goal 0", x.ahead(0, 1), 0);
        x.aim(0, 2);
        Check.due("another goal", x.ahead(0, 1), 2);
    }

    private static void wordLeft() {
        Check.due("0 at the goal", holdFor("person 0 0 0;person 1 7 0;person 2 3 0", "left = 0"), 1);
        Check.due("1 beside it", holdFor("person 0 0 0;person 1 7 0;person 2 3 0", "left = 1"), 2);
        Check.due("2, out and in", holdFor("person 0 0 0;person 1 7 0;person 2 3 0", "left = 2"), 4);
        Check.due("in and out through 0", forced("castle 4;door 0 1;door 0 2;door 1 3;person 1 2 0",
            "go 0 - 1 if left = 2").ahead(0, 1), 3);
        String row = "castle 8;door 0 1;door 1 2;door 2 3;door 3 4;door 4 5;door 5 6;door 6 7;person 0 7 0";
        Check.due("the longest way", forced(row, "go 1 if left = 7").ahead(0, 1), 1);
        String window = "castle 3;door 0 1;door 1 2;window 0 2;night 1 1;person 0 2 0";
        Check.due("2 by day", forced(window, "go 0 - 1 if left = 2").ahead(0, 1), 1);
        OutwardDoors x = forced(window, "go 1 if left = 1");
        Check.due("not 1 by day", x.ahead(0, 1), 0);
        Check.due("1 by night", x.ahead(0, 2), 2);
    }

    private static void wordLeftWithoutWay() {
        Check.due("99 without a way", holdFor("person 0 5 0;person 1 7 0;person 2 6 0", "left = 99"), 5);
        Check.due("no other number", holdFor("person 0 5 0;person 1 7 0;person 2 6 0", "left < 99"), 2);
    }

    private static void wordsPayAndMoment() {
        Check.due("pay 0 and 50", holdFor("person 0 5 0;person 1 7 50;person 2 6 49", "pay = 50"), 2);
        Check.due("pay 0 and 50", holdFor("person 0 5 0;person 1 7 50;person 2 6 49", "pay = 0"), 1);
        OutwardDoors x = forced(FORK, "go 1 if moment = 2");
        Check.due("moments 0 and 1", x.ahead(0, 2), 1);
        Check.due("moment 2", x.ahead(0, 3), 3);
        x.moment();
        Check.due("moment 2 from 1 on", x.ahead(0, 1), 1);
        Check.due("moment 2 from 1 on", x.ahead(0, 2), 3);
    }

    private static void wordNight() {
        OutwardDoors x = forced(FORK + ";night 1 1", "go 1 if night = 1");
        Check.due("0 by day", x.ahead(0, 1), 1);
        Check.due("1 by night", x.ahead(0, 2), 3);
        Check.due("0 by day", forced(FORK + ";night 1 1", "go 1 if night = 0").ahead(0, 1), 3);
        Check.due("0 without a night", forced(FORK, "go 0 - 1 if night = 0").ahead(0, 1), 2);
    }

    private static void wordHere() {
        String four = "person 0 5 0;person 1 5 0;person 1 5 0;person 2 5 0";
        Check.due("alone", holdFor(four, "here = 0"), 9);
        Check.due("one other", holdFor(four, "here = 1"), 6);
        Check.due("three others", holdFor("person 1 5 0;person 1 5 0;person 1 5 0;person 1 5 0", "here = 3"), 15);
    }

    private static void wordsInAndOut() {
        OutwardDoors x = forced("castle 2;door 0 1;person 0 1 0;person 1 0 0", "go 1 if in = 0 and out = 0");
        Check.due("both so far 0", x.moment(), 2);
        x.aim(0, 0);
        x.aim(1, 1);
        Check.due("in 1, out 1", x.moment(), 0);
        Check.rule(x, "go 1 if out = 1 and in = 0 or in = 1 and out = 0");
        x.force(1);
        Check.due("one went out, one came in", x.moment(), 2);
        OutwardDoors y = forced("castle 3;door 0 1;door 1 2;person 0 2 0", "go 1 if out = 1");
        y.send(0, 0, -1);
        Check.due("one who was sent went out", y.moment(), 1);
    }

    private static void wordAsked() {
        String out = "castle 4;door 1 2;door 1 3;door 0 1;";
        String rule = "go 0 - 1 if person = 0 and asked = ";
        Check.due("by nobody", forced(out + "person 1 1 0", rule + 0).ahead(0, 1), 2);
        String two = out + "person 1 1 0;person 2 1 0;person 3 0 0;person 0 1 0";
        Check.due("by two from farther out, not by one from farther in", forced(two, rule + 2).ahead(0, 1), 2);
        String here = out + "person 1 1 0;person 1 2 0;person 2 3 0;person 2 2 0";
        Check.due("by one whose step it is, though the goal is another", forced(here, rule + 1).ahead(0, 1), 2);
        String window = "castle 3;door 0 1;window 0 2;night 1 1;person 0 0 0;person 2 0 0";
        OutwardDoors x = forced(window, "go 0 - 1 if person = 0 and asked = 1");
        Check.due("not through a window by day", x.ahead(0, 1), 0);
        Check.due("through a window by night", x.ahead(0, 2), 1);
    }

    private static void overTowardsZero() {
        holds("7 / 2 = 3");
        holds("1 / 2 = 0");
        holds("99999 / 99998 = 1");
        // Sums alone are below 0, but 2^63 goes round to the lowest number of all.
        holds("65536 * 65536 * 65536 * 32768 / 2 = 0 - 65536 * 65536 * 65536 * 16384");
        holds("65536 * 65536 * 65536 * 32768 / 10 * 10 - 65536 * 65536 * 65536 * 32768 = 8");
    }

    private static void restOfOver() {
        holds("7 % 2 = 1");
        holds("6 % 2 = 0");
        holds("1 % 2 = 1");
        holds("7 % 1 = 0");
        holds("65536 * 65536 * 65536 * 32768 % 10 = 0 - 8");
    }

    private static void byZero() {
        holds("7 / 0 = 0");
        holds("7 % 0 = 0");
        holds("0 / 0 = 0");
        holds("0 % 0 = 0");
        holds("7 / 0 + 5 = 5");
        holds("7 % in * 9 + 5 / out = 0");
    }

    private static void roundIn64Bits() {
        Check.due("2^62", signOf("go 65536 * 65536 * 65536 * 16384"), 1);
        Check.due("2^63 - 1", signOf("go 65536 * 65536 * 65536 * 32768 - 1"), 1);
        Check.due("2^63", signOf("go 65536 * 65536 * 65536 * 32768"), -1);
        Check.due("2^64", signOf("go 65536 * 65536 * 65536 * 65536"), 0);
        Check.due("2^64 + 1", signOf("go 65536 * 65536 * 65536 * 65536 + 1"), 1);
        Check.due("-2^63 - 1", signOf("go 0 - 65536 * 65536 * 65536 * 32768 - 1"), 1);
        Check.due("2^32 is not 0", signOf("go 65536 * 65536"), 1);
        Check.due("2^31 is above 0", signOf("go 65536 * 32768"), 1);
    }

    private static void blanks() {
        good("go1");
        good("   go   1   ");
        Check.due("many", signOf("  go  1  if  not  [  1  >=  2  ]  ;  go  0  "), 1);
        Check.due("few", signOf("go1if not[1>=2];go0"), 1);
        bad("go 1 2", 5, 0);
        bad("g o 1", 0, 0);
        int[] others = {0, 9, 10, 11, 12, 13, 31, 33, 127, 160, 255};
        for (int b : others) {
            bad("go" + (char) b + "1", 2, 0);
            bad("go 1" + (char) b, 4, 0);
        }
    }

    private static void tenDeep() {
        holds("not ".repeat(8) + "1 = 1");
        good("go 1 if " + "not ".repeat(10) + "1 = 1");
        Check.due("ten deep", signOf("go 1 if " + "[".repeat(10) + "1 = 1" + "]".repeat(10)), 1);
        Check.due("ten deep", signOf("go 1 if " + "not [".repeat(5) + "1 = 0" + "]".repeat(5)), 1);
        String side = "[".repeat(10) + "1 = 1" + "]".repeat(10);
        good("go 1 if " + side + " and " + side + " or not not " + "[".repeat(8) + "1 = 1" + "]".repeat(8));
        good("go 1 if " + side + ";go 1 if " + side);
    }

    private static void sixtyParts() {
        good("go 1" + "+1".repeat(59));
        bad("go 1" + "+1".repeat(60), 3 + 120, 3);
        // A clause of two values and, by its sign, one more; its sum is a fourth.
        String four = "go 1 if 1=1";
        good(four + (";" + four).repeat(11) + "+1+1+1+1+1+1+1+1+1+1+1+1");
        bad(four + (";" + four).repeat(11) + "+1".repeat(13), 143 + 24 + 1, 3);
        String facts = "go 1 if 1=1" + " or 1=1".repeat(18);
        good(facts + "+1+1");
        bad(facts + "+1+1+1", facts.length() + 5, 3);
        OutwardDoors x = new OutwardDoors();
        Check.due("sixty in one rule", Check.rule(x, "go 1" + "+1".repeat(59)), 0);
        Check.due("sixty in the next one", Check.rule(x, "go 1" + "+1".repeat(59)), 1);
    }

    private static void firstAlongTheText() {
        bad("go 100000;x", 3, 1);
        bad("go 1 if " + "[".repeat(11) + "x", 18, 2);
        bad("go 1" + "+1".repeat(60) + "x", 123, 3);
        bad("go x;go 100000", 3, 0);
        bad("go 100000 100000", 3, 1);
    }

    private static void placesOfFaults() {
        Check.due("at 0", Check.rule(new OutwardDoors(), "x"), -3);
        Check.due("kind 1 at 3", Check.rule(new OutwardDoors(), "go 123456"), -28);
        Check.due("at 399", Check.rule(new OutwardDoors(), "go 1" + " ".repeat(395) + "x"), -3195);
        Check.due("the end at 400", Check.rule(new OutwardDoors(), "go 1" + " ".repeat(395) + "+"), -3203);
    }

    private static void bytesThatCanNotStand() {
        for (int b = 0; b < 256; b++) {
            String sign = String.valueOf((char) b);
            boolean digit = b >= '0' && b <= '9';
            boolean joins = "+-*/%".contains(sign);
            if (b != ' ') {
                bad(sign, 0, 0);
            }
            if (b != ' ' && !digit) {
                bad("go " + sign, 3, 0);
                bad("go 1 if 1=" + sign, 10, 0);
            }
            if (b != ' ' && b != ';' && !digit) {
                bad("go 1" + sign, joins ? 5 : 4, 0);
                bad("go 1 if 1=1" + sign, joins ? 12 : 11, 0);
            }
            boolean opens = b == '[' || digit;
            bad("go 1 if " + sign, b == ' ' || opens ? 9 : 8, 0);
            boolean compares = b == '<' || b == '=' || b == '>';
            bad("go 1 if 1" + sign, b == ' ' || digit || joins || compares ? 10 : 9, 0);
            boolean widens = b == '=';
            if (!digit) {
                bad("go 1 if 1<" + sign, b == ' ' || widens ? 11 : 10, 0);
            }
        }
    }

    private static void wordsThatCanNotStand() {
        bad("castle 2", 0, 0);
        bad("if 1 = 1", 0, 0);
        bad("go go 1", 3, 0);
        bad("go 1 go 1", 5, 0);
        bad("go 1 and 1", 5, 0);
        bad("go not 1", 3, 0);
        bad("go 1 if and", 8, 0);
        bad("go 1 if 1 not 1", 10, 0);
        bad("go 1 if 1 = not 1", 12, 0);
        bad("go 1 if 1 and 1 = 1", 10, 0);
        bad("go 1 if 1 = 1 and or 1 = 1", 18, 0);
        bad("go 1 if 1 = 1 not 1 = 1", 14, 0);
        bad("go 1 if 1 = 1 here", 14, 0);
        bad("go 1 if 1 = if", 12, 0);
        bad("go window", 3, 0);
        bad("go door", 3, 0);
        bad("go castle", 3, 0);
    }

    private static void endTooEarly() {
        bad("", 0, 0);
        bad("   ", 3, 0);
        bad("go", 2, 0);
        bad("go   ", 5, 0);
        bad("go 1;", 5, 0);
        bad("go 1;go", 7, 0);
        bad("go 1 if", 7, 0);
        bad("go 1 if  ", 9, 0);
        bad("go 1 if not", 11, 0);
        bad("go 1 if [", 9, 0);
        bad("go 1 if 1", 9, 0);
        bad("go 1 if 1 <", 11, 0);
        bad("go 1 if 1 <= ", 13, 0);
        bad("go 1 if 1 = 1 and", 17, 0);
        bad("go 1 if 1 = 1 or", 16, 0);
        bad("go 1 if [1 = 1", 14, 0);
        bad("go 1 if [1 = 1 ", 15, 0);
        bad("go 1 %", 6, 0);
    }

    private static void moreDigits() {
        bad("go 1 + 123456", 7, 1);
        bad("go 1 if 123456 = 1", 8, 1);
        bad("go 1 if 1 = 000000", 12, 1);
        bad("go 1 * 4294967297", 7, 1);
        bad("go " + "1".repeat(397), 3, 1);
    }

    private static void tooDeep() {
        bad("go 1 if " + "[".repeat(11) + "1 = 1" + "]".repeat(11), 18, 2);
        bad("go 1 if " + "not ".repeat(11) + "1 = 1", 48, 2);
        bad("go 1 if " + "[".repeat(10) + "  not 1 = 1" + "]".repeat(10), 20, 2);
        bad("go 1 if " + "not ".repeat(10) + " [1 = 1]", 49, 2);
        bad("go 1 if " + "[".repeat(10) + "1 = 1 and [1 = 1" + "]".repeat(11), 28, 2);
        bad("go 1 if " + "[".repeat(10) + "1 = 1 or not 1 = 1" + "]".repeat(11), 27, 2);
        bad("go 1 if [" + "not ".repeat(9) + "not 1 = 1", 45, 2);
    }

    private static void onePartTooMany() {
        String sixty = "go 1" + "+1".repeat(59);
        bad(sixty + "  +  pay", sixty.length() + 5, 3);
        bad(sixty + " * 12345", sixty.length() + 3, 3);
        bad(sixty + ";go 1", sixty.length() + 4, 3);
        bad(sixty + " if 1 = 1", sixty.length() + 4, 3);
        bad(sixty + " if not [1 = 1]", sixty.length() + 9, 3);
        String fiftyNine = "go 1" + "+1".repeat(58);
        bad(fiftyNine + " if 1 = 1", fiftyNine.length() + 6, 3);
        bad(fiftyNine + " if 1   >= 1", fiftyNine.length() + 8, 3);
        String fiftyEight = "go 1" + "+1".repeat(57);
        bad(fiftyEight + " if 1 = 1", fiftyEight.length() + 8, 3);
        good("go 1" + "+1".repeat(56) + " if 1 = 1");
    }

    private static void clauseTooMany() {
        String twelve = "go 1" + ";go 1".repeat(11);
        good(twelve);
        bad(twelve + ";go 1", twelve.length() + 1, 4);
        bad(twelve + ";  go", twelve.length() + 3, 4);
        bad(twelve + ";go 1;go 1", twelve.length() + 1, 4);
        bad(twelve + ";", twelve.length() + 1, 0);
    }

    private static void ofOnePlaceTheLeast() {
        String sixty = "go 1" + "+1".repeat(59);
        bad(sixty + "+123456", sixty.length() + 1, 1);
        bad(sixty + "+x", sixty.length() + 1, 0);
        bad(sixty + " if x", sixty.length() + 4, 0);
        String fiftyNine = "go 1" + "+1".repeat(58);
        bad(fiftyNine + " if 1 ! 1", fiftyNine.length() + 6, 0);
        String twelve = "go 1" + ";go 1".repeat(11);
        bad(twelve + ";if", twelve.length() + 1, 0);
        bad("go 1 if " + "[".repeat(10) + "x", 18, 0);
    }
}
