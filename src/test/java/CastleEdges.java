/** Edges of what a CASTLE's text may tell, and of its FAULTS. */
final class CastleEdges {
    private CastleEdges() {
    }

    static void tell(Edges e) {
        e.term("A CASTLE is a text of at most 400 bytes", CastleEdges::fullText);
        e.term("CLAUSE { ; CLAUSE }", CastleEdges::clausesBetweenSigns);
        e.term("CLAUSE { ; CLAUSE }, 40 at most", CastleEdges::fortyClauses);
        e.term("castle NUMBER (ROOMS 2 to 8;", CastleEdges::twoToEightRooms);
        e.term("once, the first CLAUSE)", CastleEdges::castleOnceAndFirst);
        e.term("far NUMBER NUMBER (a ROOM, how FAR it is, 0 to 9;", CastleEdges::farZeroToNine);
        e.term("of one the last told,", CastleEdges::farLastTold);
        e.term("its number without)", CastleEdges::farWithout);
        e.term("door NUMBER NUMBER (two ROOMS between which none was told)", CastleEdges::doorOfTwoRooms);
        e.term("window NUMBER NUMBER (likewise)", CastleEdges::windowOfTwoRooms);
        e.term("night NUMBER NUMBER (the first, the last MOMENT of 24, not below the first;", CastleEdges::nightOf24);
        e.term("once at most, none without)", CastleEdges::nightOnceOrNever);
        e.term("a ROOM, where they are at first; a ROOM, their GOAL;", CastleEdges::personsRooms);
        e.term("PAY 0 to 50)", CastleEdges::payZeroToFifty);
        e.term("DOORS and WINDOWS together 0 to 13,", CastleEdges::fourteenDoors);
        e.term("PEOPLE 0 to 3,", CastleEdges::fourPeople);
        e.term("in the order told.", CastleEdges::orderTold);
        e.term("It is MOMENT 0.", CastleEdges::momentZero);
        e.term("FAULTS, the first along the text,", CastleEdges::firstAlongTheText);
        e.term("1 + 8 * its place and:", CastleEdges::placesOfFaults);
        e.term("0 a byte or WORD that can't stand there,", CastleEdges::bytesThatCanNotStand);
        e.term("0 a byte or WORD that can't stand there,", CastleEdges::wordsThatCanNotStand);
        e.term("or the end (behind the last byte);", CastleEdges::endTooEarly);
        e.term("1 a NUMBER of more digits,", CastleEdges::moreDigits);
        e.term("of door and window the second ROOM, if it is the first,", CastleEdges::secondRoomIsFirst);
        e.term("or if one is there already);", CastleEdges::doorThereAlready);
        e.term("4 one CLAUSE too many,", CastleEdges::clauseTooMany);
        e.term("a second castle or night,", CastleEdges::secondCastleOrNight);
        e.term("another CLAUSE ahead of castle,", CastleEdges::clauseAheadOfCastle);
        e.term("a 15th of DOORS and WINDOWS,", CastleEdges::fifteenthDoor);
        e.term("a fifth PERSON (at its first byte).", CastleEdges::fifthPerson);
        e.term("Of one place the least.", CastleEdges::ofOnePlaceTheLeast);
    }

    private static void bad(String text, int place, int kind) {
        OutwardDoors x = new OutwardDoors();
        Check.due("castle '" + text + "'", Check.castle(x, text), Check.fault(place, kind));
        Check.due("rooms behind '" + text + "'", x.count(0), 0);
    }

    private static OutwardDoors good(String text, int people) {
        OutwardDoors x = new OutwardDoors();
        Check.due("castle '" + text + "'", Check.castle(x, text), people);
        return x;
    }

    private static void fullText() {
        String head = "castle 2";
        String tail = ";far 1 9";
        OutwardDoors x = good(head + " ".repeat(400 - head.length() - tail.length()) + tail, 0);
        Check.due("the 400th byte is read", x.room(1, 0), 9);
        good(" ".repeat(392) + head, 0);
        good(head + " ".repeat(392), 0);
        Check.tell(x, head + " ".repeat(392));
        Check.due("a 401st can't be fed", x.feed(0, 0, 0, 0, 0), -1);
    }

    private static void clausesBetweenSigns() {
        good("castle 2", 0);
        good("castle 2;far 0 0", 0);
        bad(";castle 2", 0, 0);
        bad("castle 2;", 9, 0);
        bad("castle 2;;far 0 0", 9, 0);
        bad("castle 2;far 0 0;", 17, 0);
        bad("castle 2 far 0 0", 9, 0);
        bad("castle 2,far 0 0", 8, 0);
    }

    private static String clauses(int count) {
        return "castle 2" + ";far 0 0".repeat(count - 1);
    }

    private static void fortyClauses() {
        good(clauses(39), 0);
        good(clauses(40), 0);
        bad(clauses(41), clauses(40).length() + 1, 4);
        OutwardDoors x = good(clauses(39) + ";far 1 9", 0);
        Check.due("the 40th is told", x.room(1, 0), 9);
    }

    private static void twoToEightRooms() {
        bad("castle 0", 7, 1);
        bad("castle 1", 7, 1);
        for (int rooms = 2; rooms <= 8; rooms++) {
            Check.due("rooms", good("castle " + rooms, 0).count(0), rooms);
        }
        bad("castle 9", 7, 1);
        bad("castle 10", 7, 1);
        bad("castle 99999", 7, 1);
    }

    private static void castleOnceAndFirst() {
        bad("castle 2;castle 2", 9, 4);
        bad("castle 2;far 0 0;castle 3", 17, 4);
        bad("far 0 0;castle 2", 0, 4);
        bad("castle 2;castle 9", 9, 4);
    }

    private static void farZeroToNine() {
        Check.due("far 0", good("castle 2;far 1 0", 0).room(1, 0), 0);
        Check.due("far 9", good("castle 2;far 1 9", 0).room(1, 0), 9);
        bad("castle 2;far 1 10", 15, 1);
        Check.due("far of the last room", good("castle 8;far 7 2", 0).room(7, 0), 2);
        Check.due("far of the first room", good("castle 8;far 0 2", 0).room(0, 0), 2);
        bad("castle 2;far 2 0", 13, 1);
        bad("castle 8;far 8 0", 13, 1);
        bad("castle 2;far 2 10", 13, 1);
    }

    private static void farLastTold() {
        OutwardDoors x = good("castle 3;far 1 5;far 2 0;far 1 3;far 1 4;door 1 2", 0);
        Check.due("far of 1", x.room(1, 0), 4);
        Check.due("far of 2", x.room(2, 0), 0);
        Check.due("out from 2, the less far", x.door(0, 0), 2);
        OutwardDoors y = good("castle 2;door 0 1;far 0 9", 0);
        Check.due("told behind the door", y.door(0, 0), 1);
    }

    private static void farWithout() {
        OutwardDoors x = good("castle 8;far 3 3", 0);
        for (int r = 0; r < 8; r++) {
            Check.due("far of " + r, x.room(r, 0), r);
        }
        Check.castle(x, "castle 8;far 7 0;far 0 7");
        Check.castle(x, "castle 8");
        Check.due("far of 0 in the next castle", x.room(0, 0), 0);
        Check.due("far of 7 in the next castle", x.room(7, 0), 7);
    }

    private static void doorOfTwoRooms() {
        good("castle 2;door 0 1", 0);
        good("castle 2;door 1 0", 0);
        good("castle 3;door 0 1;door 0 2;door 1 2", 0);
        good("castle 8;door 6 7", 0);
        bad("castle 2;door 2 1", 14, 1);
        bad("castle 2;door 0 2", 16, 1);
        bad("castle 2;door 1 1", 16, 1);
        bad("castle 2;door 0 1;door 0 1", 25, 1);
        bad("castle 2;door 0 1;door 1 0", 25, 1);
    }

    private static void windowOfTwoRooms() {
        good("castle 2;window 0 1", 0);
        good("castle 3;window 1 0;door 0 2;window 2 1", 0);
        bad("castle 2;window 2 1", 16, 1);
        bad("castle 2;window 0 2", 18, 1);
        bad("castle 2;window 0 0", 18, 1);
        bad("castle 2;window 0 1;window 1 0", 29, 1);
        bad("castle 2;door 0 1;window 0 1", 27, 1);
        bad("castle 2;window 0 1;door 0 1", 27, 1);
    }

    private static void nightOf24() {
        good("castle 2;night 0 0", 0);
        good("castle 2;night 0 23", 0);
        good("castle 2;night 23 23", 0);
        good("castle 2;night 5 5", 0);
        good("castle 2;night 5 6", 0);
        bad("castle 2;night 5 4", 17, 1);
        bad("castle 2;night 1 0", 17, 1);
        bad("castle 2;night 23 0", 18, 1);
        bad("castle 2;night 24 24", 15, 1);
        bad("castle 2;night 23 24", 18, 1);
        bad("castle 2;night 0 24", 17, 1);
    }

    private static void nightOnceOrNever() {
        bad("castle 2;night 0 0;night 0 0", 19, 4);
        OutwardDoors x = good("castle 2;window 0 1", 0);
        for (int m = 0; m <= 24; m++) {
            Check.due("night at " + m, x.count(6), 0);
            Check.due("the window at " + m, x.door(0, 3), 0);
            x.moment();
        }
        Check.castle(x, "castle 2;night 0 23");
        Check.due("night told", x.count(6), 1);
        Check.castle(x, "castle 2");
        Check.due("none in the next castle", x.count(6), 0);
    }

    private static void personsRooms() {
        OutwardDoors x = good("castle 8;person 0 7 1;person 7 0 1;person 3 3 1", 3);
        int[][] due = {{0, 7}, {7, 0}, {3, 3}};
        for (int p = 0; p < 3; p++) {
            Check.due("room of " + p, x.person(p, 0), due[p][0]);
            Check.due("goal of " + p, x.person(p, 1), due[p][1]);
        }
        bad("castle 2;person 2 0 0", 16, 1);
        bad("castle 2;person 1 2 0", 18, 1);
        bad("castle 8;person 8 0 0", 16, 1);
        bad("castle 8;person 7 8 0", 18, 1);
    }

    private static void payZeroToFifty() {
        Check.due("pay 0", good("castle 2;person 0 0 0", 1).person(0, 2), 0);
        Check.due("pay 50", good("castle 2;person 0 0 50", 1).person(0, 2), 50);
        bad("castle 2;person 0 0 51", 20, 1);
        bad("castle 2;person 0 0 99999", 20, 1);
    }

    /** Doors and windows in turn, each between two rooms of its own. */
    static String doors(int count) {
        StringBuilder text = new StringBuilder("castle 8");
        int told = 0;
        for (int a = 0; a < 8; a++) {
            for (int b = a + 1; b < 8 && told < count; b++) {
                text.append(told % 2 == 0 ? ";door " : ";window ").append(a).append(' ').append(b);
                told++;
            }
        }
        return text.toString();
    }

    private static void fourteenDoors() {
        for (int count = 0; count <= 14; count++) {
            OutwardDoors x = good(doors(count), 0);
            Check.due("doors", x.count(1), count);
            Check.due("the last", x.door(count - 1, 2), count == 0 ? -1 : (count - 1) % 2);
            Check.due("one more", x.door(count, 0), -1);
        }
    }

    private static void fourPeople() {
        for (int count = 0; count <= 4; count++) {
            OutwardDoors x = good("castle 2" + ";person 1 0 7".repeat(count), count);
            Check.due("people", x.count(2), count);
            Check.due("the last", x.person(count - 1, 2), count == 0 ? -2 : 7);
            Check.due("one more", x.person(count, 0), -2);
        }
    }

    private static void orderTold() {
        OutwardDoors x = good("castle 4;person 3 0 9;window 2 3;person 0 3 1;door 0 1;window 0 3;door 1 2", 2);
        int[][] doors = {{2, 3, 1}, {0, 1, 0}, {0, 3, 1}, {1, 2, 0}};
        for (int d = 0; d < 4; d++) {
            for (int what = 0; what < 3; what++) {
                Check.due("door " + d + " " + what, x.door(d, what), doors[d][what]);
            }
        }
        Check.due("person 0", x.person(0, 2), 9);
        Check.due("person 1", x.person(1, 2), 1);
    }

    private static void momentZero() {
        OutwardDoors x = good("castle 2;night 0 0", 0);
        Check.due("moment", x.count(5), 0);
        Check.due("night at 0", x.count(6), 1);
        x.moment();
        Check.castle(x, "castle 2");
        Check.due("moment of the next castle", x.count(5), 0);
    }

    private static void firstAlongTheText() {
        bad("castle 9;x", 7, 1);
        bad("castle 9;castle 9", 7, 1);
        bad("castle 2;castle 2;x", 9, 4);
        bad("castle 2;far 9 99", 13, 1);
        bad("castle 2;door 0 0;door 0 1;x", 16, 1);
        bad("castle 2;far 0 x;far 9 9", 15, 0);
    }

    private static void placesOfFaults() {
        Check.due("at 0", Check.castle(new OutwardDoors(), "x"), -3);
        Check.due("at 1", Check.castle(new OutwardDoors(), " x"), -11);
        Check.due("kind 4 at 0", Check.castle(new OutwardDoors(), "far 0 0"), -7);
        Check.due("kind 1 at 7", Check.castle(new OutwardDoors(), "castle 1"), -60);
        String almost = "castle 2" + " ".repeat(391);
        Check.due("at 399", Check.castle(new OutwardDoors(), almost + "x"), -3195);
        Check.due("the end at 400", Check.castle(new OutwardDoors(), almost + ";"), -3203);
        Check.due("kind 1 at 399", Check.castle(new OutwardDoors(), "castle" + " ".repeat(393) + "1"), -3196);
    }

    private static void bytesThatCanNotStand() {
        for (int b = 0; b < 256; b++) {
            String sign = String.valueOf((char) b);
            boolean digit = b >= '0' && b <= '9';
            if (b != ' ') {
                bad(sign, 0, 0);
            }
            if (b != ' ' && !digit) {
                bad("castle " + sign, 7, 0);
                bad("castle 2;far " + sign, 13, 0);
            }
            if (b != ' ' && b != ';') {
                bad("castle 2" + sign, digit ? 7 : 8, digit ? 1 : 0);
                bad("castle 2;" + sign, 9, 0);
                bad("castle 2;far 0 1 " + sign, 17, 0);
            }
        }
    }

    private static void wordsThatCanNotStand() {
        bad("castles 2", 0, 0);
        bad("castl 2", 0, 0);
        bad("Castle 2", 0, 0);
        bad("castle two", 7, 0);
        bad("castle castle", 7, 0);
        bad("go 1", 0, 0);
        bad("castle 2;doors 0 1", 9, 0);
        bad("castle 2;doo 0 1", 9, 0);
        bad("castle 2;farfar 0 1", 9, 0);
        bad("castle 2;persom 0 1 1", 9, 0);
        bad("castle 2;night night", 15, 0);
        bad("castle 2;go 1", 9, 0);
        bad("castle 2;far 0 1 2", 17, 0);
        bad("castle 2;person 0 1 2 3", 22, 0);
        good("castle2;far0 1;door0 1;night3 4;person0 1 2", 1);
    }

    private static void endTooEarly() {
        bad("", 0, 0);
        bad(" ", 1, 0);
        bad(" ".repeat(400), 400, 0);
        bad("castle", 6, 0);
        bad("castle   ", 9, 0);
        bad("castle 2;  ", 11, 0);
        bad("castle 2;far", 12, 0);
        bad("castle 2;far 0", 14, 0);
        bad("castle 2;far 0 ", 15, 0);
        bad("castle 2;far 00", 15, 0);
        bad("castle 2;door 0", 15, 0);
        bad("castle 2;window 0", 17, 0);
        bad("castle 2;night 0", 16, 0);
        bad("castle 2;person 0 0", 19, 0);
    }

    private static void moreDigits() {
        good("castle 00002;far 00001 00009;door 00000 00001;night 00003 00004;person 00001 00000 00050", 1);
        bad("castle 000002", 7, 1);
        bad("castle 2;far 000001 9", 13, 1);
        bad("castle 2;far 1 000009", 15, 1);
        bad("castle 2;door 000000 1", 14, 1);
        bad("castle 2;door 0 000001", 16, 1);
        bad("castle 2;window 0 000001", 18, 1);
        bad("castle 2;night 000000 1", 15, 1);
        bad("castle 2;night 0 000001", 17, 1);
        bad("castle 2;person 0 0 000000", 20, 1);
        bad("castle 4294967298", 7, 1);
        bad("castle 2;far 0 " + "0".repeat(385), 15, 1);
    }

    private static void secondRoomIsFirst() {
        bad("castle 2;door 0 0", 16, 1);
        bad("castle 2;window 1 1", 18, 1);
        bad("castle 8;door 7 7", 16, 1);
        bad("castle 8;door 7 00007", 16, 1);
    }

    private static void doorThereAlready() {
        bad("castle 8;door 7 6;door 6 7", 25, 1);
        bad("castle 8;window 7 6;window 7   6", 31, 1);
        good("castle 8;door 7 6;door 7 5;door 6 5", 0);
        bad("castle 3;door 0 1;door 0 2;window 0 1", 36, 1);
        bad("castle 3;door 0 1;door 0 2;door 1 2;door 2 0", 43, 1);
        OutwardDoors x = good("castle 2;door 0 1", 0);
        Check.due("in the next castle there is none yet", Check.castle(x, "castle 2;window 0 1"), 0);
    }

    private static void clauseTooMany() {
        int place = clauses(40).length() + 1;
        bad(clauses(40) + ";door 0 1", place, 4);
        bad(clauses(40) + ";   night 0 0", place + 3, 4);
        bad(clauses(40) + ";far 9 9", place, 4);
        bad(clauses(40) + ";castle 2", place, 4);
        bad(clauses(40) + ";", place, 0);
        bad(clauses(40) + ";;", place, 0);
    }

    private static void secondCastleOrNight() {
        bad("castle 2;castle 2", 9, 4);
        bad("castle 2; castle", 10, 4);
        bad("castle 2;night 0 0;night 1 1", 19, 4);
        bad("castle 2;night 0 0;far 0 0; night", 28, 4);
    }

    private static void clauseAheadOfCastle() {
        bad("far 0 0;castle 2", 0, 4);
        bad("  door 0 1;castle 2", 2, 4);
        bad("window 0 1", 0, 4);
        bad("night 0 0", 0, 4);
        bad("person", 0, 4);
    }

    private static void fifteenthDoor() {
        bad(doors(14) + ";door 6 7", doors(14).length() + 1, 4);
        bad(doors(14) + ";window 6 7", doors(14).length() + 1, 4);
        bad(doors(14) + "; door 0 0", doors(14).length() + 2, 4);
        good(doors(14) + ";far 0 9;night 0 0;person 0 0 0", 1);
    }

    private static void fifthPerson() {
        String four = "castle 2" + ";person 0 1 2".repeat(4);
        bad(four + ";person 0 1 2", four.length() + 1, 4);
        bad(four + ";  person", four.length() + 3, 4);
        good(four + ";door 0 1", 4);
    }

    private static void ofOnePlaceTheLeast() {
        bad(clauses(40) + ";x", clauses(40).length() + 1, 0);
        bad(clauses(40) + ";1", clauses(40).length() + 1, 0);
        bad("xar 0 0", 0, 0);
        bad("1", 0, 0);
    }
}
