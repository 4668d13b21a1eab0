/** Promises 1 to 6: a new object, the tape, castles, rules, the rule in force. */
public final class TellTest {
    public static void main(String[] args) {
        newObject();
        tape();
        castles();
        castleLimits();
        castleReplaces();
        nothingOfAFaultStays();
        bytesBehindTheEnd();
        rules();
        ruleLimits();
        force();
        Check.finish("TellTest");
    }

    private static void newObject() {
        OutwardDoors x = new OutwardDoors();
        int[] due = {0, 0, 0, 0, -1, 0, 0, 0, 0, 0, 0, 0, 0};
        for (int what = 0; what < due.length; what++) {
            Check.due("new count " + what, x.count(what), due[what]);
        }
        Check.due("new person", x.person(0, 0), -2);
        Check.due("new room", x.room(0, 0), -1);
        Check.due("new door", x.door(0, 0), -1);
        Check.due("new moment", x.moment(), -1);
        Check.due("new aim", x.aim(0, 0), -1);
        Check.due("new send", x.send(0, 0, -1), false);
        Check.due("new undo", x.undo(), -1);
        Check.due("new ahead", x.ahead(0, 0), -1);
        Check.due("new comes", x.comes(0), -1);
        Check.due("new fewest", x.fewest(0), -1);
        Check.due("new passing", x.passing(0, 0, 0), -3);
        Check.due("new caught", x.caught(0), -1);
        Check.due("new page", x.page(0, 0), -1);
        Check.due("new price", x.price(0), -1);
        Check.due("new turned", x.turned(0, 0), -1);
        Check.due("new swap", x.swap(0), -1);
        Check.due("new note", x.note(0, 0, 0), -2);
        Check.due("new ruled", x.ruled(0), -3);
        Check.due("new look", x.look(0, 0), -1);
        Check.due("new days", x.days(1, 1, 0), -1);
        Check.due("new back", x.back(0), -1);
        Check.due("NONE", OutwardDoors.NONE, -1);
    }

    private static void tape() {
        OutwardDoors x = new OutwardDoors();
        for (int k = 1; k <= 20; k++) {
            Check.due("feed " + k, x.feed(k, 0, 0, 0, 0), 20 * k);
        }
        Check.due("feed of a full tape", x.feed(0, 0, 0, 0, 0), -1);
        Check.due("count 12", x.count(12), 400);
        Check.due("end 401", x.end(401), -1);
        Check.due("end -1", x.end(-1), -1);
        Check.due("end 381", x.end(381), 381);
        Check.due("feed at 381", x.feed(0, 0, 0, 0, 0), -1);
        Check.due("end 380", x.end(380), 380);
        Check.due("feed at 380", x.feed(0, 0, 0, 0, 0), 400);
        Check.due("end at its length", x.end(400), 400);
        Check.due("end 0", x.end(0), 0);
        Check.due("end 1 of none", x.end(1), -1);
        Check.due("count 12", x.count(12), 0);
    }

    private static void badCastle(String text, int place, int kind) {
        OutwardDoors x = new OutwardDoors();
        Check.due("castle '" + text + "'", Check.castle(x, text), Check.fault(place, kind));
        Check.due("rooms behind a fault", x.count(0), 0);
        Check.due("tape behind a fault", x.count(12), 0);
    }

    private static void goodCastle(String text, int people) {
        OutwardDoors x = new OutwardDoors();
        Check.due("castle '" + text + "'", Check.castle(x, text), people);
        Check.due("tape behind a castle", x.count(12), 0);
    }

    private static void castles() {
        goodCastle("castle 2", 0);
        goodCastle("  castle2  ;far 0 9;far0 00009; door 1 0 ; person 0 1 50  ", 1);
        goodCastle("castle 8;night 0 23;person 7 7 0;person 0 0 0", 2);
        badCastle("", 0, 0);
        badCastle("   ", 3, 0);
        badCastle("castle", 6, 0);
        badCastle("castle  ", 8, 0);
        badCastle("castle 1", 7, 1);
        badCastle("castle 9", 7, 1);
        badCastle("castle 000002", 7, 1);
        goodCastle("castle 00002", 0);
        badCastle("far 0 0", 0, 4);
        badCastle("fare 0 0", 0, 0);
        badCastle("Castle 2", 0, 0);
        badCastle("castles 2", 0, 0);
        badCastle("xastle 2", 0, 0);
        badCastle("castlx 2", 0, 0);
        badCastle("castl 2", 0, 0);
        badCastle("castle 2;", 9, 0);
        badCastle("castle 2;;", 9, 0);
        badCastle("castle 2 2", 9, 0);
        badCastle("castle 2x", 8, 0);
        badCastle("castle 2" + (char) 233, 8, 0);
        badCastle("castle 2" + (char) 0, 8, 0);
        badCastle("castle 2;castle 2", 9, 4);
        badCastle("castle 2;far 2 0", 13, 1);
        badCastle("castle 2;far 0 10", 15, 1);
        badCastle("castle 2;far 0", 14, 0);
        badCastle("castle 2;door 0 0", 16, 1);
        badCastle("castle 2;door 0 2", 16, 1);
        badCastle("castle 2;door 2 0", 14, 1);
        badCastle("castle 2;door 0 1;window 1 0", 27, 1);
        badCastle("castle 2;window 0 1;window 0 1", 29, 1);
        badCastle("castle 2;night 24 24", 15, 1);
        badCastle("castle 2;night 5 4", 17, 1);
        goodCastle("castle 2;night 5 5", 0);
        badCastle("castle 2;night 0 24", 17, 1);
        badCastle("castle 2;night 0 0;night 0 0", 19, 4);
        badCastle("castle 2;person 2 0 0", 16, 1);
        badCastle("castle 2;person 0 2 0", 18, 1);
        badCastle("castle 2;person 0 0 51", 20, 1);
        badCastle("castle 2;person 0 0 99999999999", 20, 1);
        badCastle("castle 2;go 1", 9, 0);
    }

    private static void castleLimits() {
        String forty = "castle 2" + ";far 0 0".repeat(39);
        goodCastle(forty, 0);
        badCastle(forty + ";far 0 0", forty.length() + 1, 4);
        badCastle(forty + "; fxr 0 0", forty.length() + 2, 0);
        badCastle(forty + ";", forty.length() + 1, 0);
        String four = "castle 2" + ";person 0 0 0".repeat(4);
        goodCastle(four, 4);
        badCastle(four + ";person 0 0 0", four.length() + 1, 4);
        StringBuilder doors = new StringBuilder("castle 8");
        int told = 0;
        for (int a = 0; a < 8; a++) {
            for (int b = a + 1; b < 8 && told < 14; b++) {
                doors.append(told % 2 == 0 ? ";door " : ";window ").append(a).append(' ').append(b);
                told++;
            }
        }
        OutwardDoors x = Check.with(doors.toString());
        Check.due("14 doors", x.count(1), 14);
        badCastle(doors + ";door 6 7", doors.length() + 1, 4);
        badCastle(doors + ";window 6 7", doors.length() + 1, 4);
    }

    private static void castleReplaces() {
        OutwardDoors x = Check.with("castle 3;door 0 1;door 1 2;person 0 2 5", "go 1");
        x.force(0);
        x.seed(77);
        x.moment();
        x.note(0, 0, 0);
        Check.due("fault", Check.castle(x, "castle 2;;"), Check.fault(9, 0));
        Check.due("rooms stay", x.count(0), 3);
        Check.due("moment stays", x.count(5), 1);
        Check.due("notes stay", x.count(9), 1);
        Check.due("acts stay", x.count(10), 1);
        Check.due("another castle", Check.castle(x, "castle 4;person 1 2 3;person 1 1 1"), 2);
        int[] due = {4, 0, 2, 1, 0, 0, 0, 0, 0, 0, 0, 77, 0};
        for (int what = 0; what < due.length; what++) {
            Check.due("count " + what + " of another castle", x.count(what), due[what]);
        }
        Check.due("nothing to be undone", x.undo(), -1);
    }

    private static void nothingOfAFaultStays() {
        OutwardDoors x = new OutwardDoors();
        Check.castle(x, "castle 8;far 0 9;far 1 0;window 0 1;night 0 23;person 0 0 0;person 7 7 7;x");
        Check.due("a castle behind a fault", Check.castle(x, "castle 2;door 0 1"), 0);
        Check.due("rooms", x.count(0), 2);
        Check.due("doors", x.count(1), 1);
        Check.due("night", x.count(6), 0);
        Check.due("far of 0", x.room(0, 0), 0);
        Check.due("far of 1", x.room(1, 0), 1);
        Check.due("no window", x.door(0, 2), 0);
        Check.due("a night behind a fault", Check.castle(x, "castle 2;night 1 1;person 0 1 0;door 0 1"), 1);
        Check.rule(x, "go 0;go 0 - 1;x");
        Check.due("a rule behind a fault", Check.rule(x, "go 1 if 1 = 2"), 0);
        x.force(0);
        Check.due("by that rule", x.moment(), 0);
        for (int k = 0; k < 20; k++) {
            Check.rule(x, "go 1" + "+1".repeat(58) + ";x");
        }
        Check.due("a rule behind many faults", Check.rule(x, "go 1 if 2 = 2"), 1);
        x.force(1);
        Check.due("by that rule", x.moment(), 1);
    }

    /** Bytes that the tape had behind its end are no part of it. */
    private static void bytesBehindTheEnd() {
        OutwardDoors x = new OutwardDoors();
        Check.tell(x, "go 1 if 1<=2");
        x.end(10);
        Check.due("a sign cut off", x.rule(), Check.fault(10, 0));
        Check.tell(x, "castle    ");
        x.end(7);
        Check.due("blanks cut off", x.castle(), Check.fault(7, 0));
        Check.tell(x, "castle 234");
        x.end(8);
        Check.due("digits cut off", x.castle(), 0);
        Check.tell(x, "go here  ;");
        x.end(6);
        Check.due("letters cut off", x.rule(), Check.fault(3, 0));
    }

    private static void badRule(String text, int place, int kind) {
        OutwardDoors x = new OutwardDoors();
        Check.due("rule '" + text + "'", Check.rule(x, text), Check.fault(place, kind));
        Check.due("rules behind a fault", x.count(3), 0);
        Check.due("tape behind a fault", x.count(12), 0);
    }

    private static void goodRule(String text) {
        OutwardDoors x = new OutwardDoors();
        Check.due("rule '" + text + "'", Check.rule(x, text), 0);
        Check.due("tape behind a rule", x.count(12), 0);
    }

    private static void rules() {
        goodRule("go 1");
        goodRule("go1if1<2");
        goodRule("go 99999 if not [ 1 = 1 or 2 > 3 and far <= 2 ] ; go 0 - 1");
        goodRule("go person + room - far * goal / left % pay;go moment + night + here + in + out + asked");
        badRule("", 0, 0);
        badRule("go", 2, 0);
        badRule("gos 1", 0, 0);
        badRule("if 1", 0, 0);
        badRule("go x", 3, 0);
        badRule("go - 1", 3, 0);
        badRule("go 5 %", 6, 0);
        badRule("go 1 2", 5, 0);
        badRule("go 1;", 5, 0);
        badRule("go 1 if", 7, 0);
        badRule("go 1 if 1", 9, 0);
        badRule("go 1 if 1 <", 11, 0);
        badRule("go 1 if 1 < = 2", 12, 0);
        badRule("go 1 if 1 == 2", 11, 0);
        badRule("go 1 if 1 <> 2", 11, 0);
        badRule("go 1 if 1 < 2 < 3", 14, 0);
        badRule("go 1 if here = 1]", 16, 0);
        badRule("go 1 if [here = 1", 17, 0);
        badRule("go 1 if [here = 1;go 1", 17, 0);
        badRule("go 1 if [here] = 1", 13, 0);
        badRule("go [1]", 3, 0);
        badRule("go 1 if not", 11, 0);
        badRule("go 1 if 1 < 2 and", 17, 0);
        badRule("go 1 if 1 < 2 or or", 17, 0);
        badRule("go 1 if 1 < 2 xor 1 < 2", 14, 0);
        badRule("go 1 if not = 2", 12, 0);
        badRule("go 100000", 3, 1);
        badRule("go 1 100000", 5, 0);
        badRule("go 1 if 1 < 100000", 12, 1);
        badRule("castle 2", 0, 0);
    }

    private static void ruleLimits() {
        String ten = "go 1 if " + "not [".repeat(5) + "1=1" + "]".repeat(5);
        goodRule(ten);
        String deep = "go 1 if " + "not [".repeat(5);
        badRule(deep + "not 1=1" + "]".repeat(5), deep.length(), 2);
        badRule(deep + "  [1=1]" + "]".repeat(5), deep.length() + 2, 2);
        goodRule(ten + " and not 1 = 1 or [ 1 = 1 ]");
        goodRule("go 1 if not not not not not not not not not not 1=1");
        badRule("go 1 if not not not not not not not not not not not 1=1", 48, 2);
        String sixty = "go 1" + "+1".repeat(59);
        goodRule(sixty);
        badRule(sixty + "+1", sixty.length() + 1, 3);
        badRule(sixty + "+far", sixty.length() + 1, 3);
        badRule(sixty + "+x", sixty.length() + 1, 0);
        badRule(sixty + "+123456", sixty.length() + 1, 1);
        String almost = "go 1" + "+1".repeat(57);
        badRule(almost + " if 1 < 1 = 2", almost.length() + 8, 3);
        badRule("go 1" + "+1".repeat(58) + " if 1<1", 3 + 117 + 5, 3);
        badRule("go 1" + "+1".repeat(56) + ";go 1;go 1;go 1;go 1", 4 + 112 + 15 + 4, 3);
        String twelve = "go 1" + ";go 1".repeat(11);
        goodRule(twelve);
        badRule(twelve + "; go 1", twelve.length() + 2, 4);
        badRule(twelve + ";gone 1", twelve.length() + 1, 0);
        OutwardDoors x = new OutwardDoors();
        for (int k = 0; k < 6; k++) {
            Check.due("a rule's number", Check.rule(x, "go " + k), k);
            Check.due("a fault between", Check.rule(x, "go"), k == 5 ? -1 : Check.fault(2, 0));
        }
        Check.due("tape stays at a seventh", x.count(12), 2);
        Check.due("seventh rule", Check.rule(x, "go 7"), -1);
        Check.due("six rules", x.count(3), 6);
    }

    private static void force() {
        OutwardDoors x = new OutwardDoors();
        Check.due("force 0 of none", x.force(0), -2);
        Check.due("force NONE", x.force(-1), -1);
        Check.rule(x, "go 0");
        Check.rule(x, "go 1");
        Check.due("force 1", x.force(1), -1);
        Check.due("force 2", x.force(2), -2);
        Check.due("force -2", x.force(-2), -2);
        Check.due("count 4", x.count(4), 1);
        Check.due("force 0", x.force(0), 1);
        Check.due("force NONE", x.force(-1), 0);
        Check.due("count 4", x.count(4), -1);
    }
}
