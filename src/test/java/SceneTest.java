/** Promises 7 to 13 and 28: people, rooms, doors, moments, aims, sendings, undoing, counts. */
public final class SceneTest {
    private static final String ROW = "castle 3;door 0 1;door 1 2;person 2 0 5;person 0 2 7";

    public static void main(String[] args) {
        people();
        rooms();
        doors();
        levelDoors();
        windows();
        moments();
        manyAtOneDoor();
        rules();
        words();
        arithmetic();
        aims();
        sendings();
        undoing();
        lastMoment();
        counts();
        Check.finish("SceneTest");
    }

    private static void people() {
        OutwardDoors x = Check.with(ROW);
        int[] due = {2, 0, 5, 2, 1, 0, 0, -1};
        for (int what = 0; what < due.length; what++) {
            Check.due("person 0 " + what, x.person(0, what), due[what]);
        }
        Check.due("person 1 step", x.person(1, 4), 1);
        Check.due("person 2", x.person(2, 0), -2);
        Check.due("person -1", x.person(-1, 0), -2);
        Check.due("person what 8", x.person(0, 8), -2);
        Check.due("person what -1", x.person(0, -1), -2);
        OutwardDoors y = Check.with("castle 4;door 0 1;person 1 1 0;person 2 0 0;person 2 2 0");
        Check.due("left at the goal", y.person(0, 3), 0);
        Check.due("no step at the goal", y.person(0, 4), -1);
        Check.due("left without a way", y.person(1, 3), 99);
        Check.due("no step without a way", y.person(1, 4), -1);
        OutwardDoors z = Check.with("castle 4;door 3 2;door 3 1;door 0 2;door 0 1;person 3 0 0");
        Check.due("the least of several steps", z.person(0, 4), 1);
    }

    private static void rooms() {
        OutwardDoors x = Check.with("castle 5;door 0 1;door 1 2;door 3 1;far 3 0;window 2 4;person 1 0 0;person 3 0 0;person 1 0 0");
        Check.due("far of 3", x.room(3, 0), 0);
        Check.due("far of 4", x.room(4, 0), 4);
        Check.due("who is in 1", x.room(1, 1), 5);
        Check.due("who is in 3", x.room(3, 1), 2);
        Check.due("who is in 0", x.room(0, 1), 0);
        Check.due("outside of 0", x.room(0, 2), 6);
        Check.due("outside of 3", x.room(3, 2), 6);
        Check.due("outside of 2", x.room(2, 2), 0);
        Check.due("room 5", x.room(5, 0), -1);
        Check.due("room -1", x.room(-1, 0), -1);
        Check.due("room what 3", x.room(0, 3), -1);
        Check.due("room what -1", x.room(0, -1), -1);
    }

    private static void doors() {
        OutwardDoors x = Check.with("castle 4;door 3 1;window 2 0;door 3 2;far 3 0;far 3 2;far 2 9;night 0 0");
        int[][] due = {{1, 3, 0, 1}, {0, 2, 1, 1}, {3, 2, 0, 1}};
        for (int d = 0; d < 3; d++) {
            for (int what = 0; what < 4; what++) {
                Check.due("door " + d + " " + what, x.door(d, what), due[d][what]);
            }
        }
        Check.due("door 3", x.door(3, 0), -1);
        Check.due("door -1", x.door(-1, 0), -1);
        Check.due("door what 4", x.door(0, 4), -1);
        Check.due("door what -1", x.door(0, -1), -1);
        x.moment();
        Check.due("a window by day", x.door(1, 3), 0);
        Check.due("a door by day", x.door(0, 3), 1);
    }

    private static void levelDoors() {
        OutwardDoors x = Check.with("castle 3;door 2 1;far 2 1;door 0 2;person 1 2 0");
        Check.due("of two as far the lesser", x.door(0, 0), 1);
        Check.due("of two as far the greater", x.door(0, 1), 2);
        Check.due("nobody passes", x.door(0, 3), 0);
        Check.due("no way", x.person(0, 3), 99);
        Check.due("no step", x.person(0, 4), -1);
        Check.due("none sent", x.send(0, 0, -1), false);
        Check.due("caught", x.caught(1), 1);
        Check.due("turned", x.turned(0, 1), -1);
    }

    private static void windows() {
        OutwardDoors x = Check.with("castle 2;window 0 1;night 2 2;person 0 1 0");
        Check.due("no step by day", x.person(0, 4), -1);
        Check.due("nothing by day", x.moment(), 0);
        Check.due("nothing by day", x.moment(), 0);
        Check.due("night", x.count(6), 1);
        Check.due("a step by night", x.person(0, 4), 1);
        Check.due("out by night", x.moment(), 1);
        Check.due("day", x.count(6), 0);
        for (int k = 3; k < 26; k++) {
            x.moment();
        }
        Check.due("night again at 26", x.count(6), 1);
        OutwardDoors y = Check.with("castle 2;window 0 1;person 0 1 0");
        Check.due("never a night", y.count(6), 0);
        Check.due("never open", y.door(0, 3), 0);
    }

    private static void moments() {
        OutwardDoors x = Check.with(ROW);
        Check.due("first moment", x.moment(), 1);
        Check.due("0 stays", x.person(0, 0), 2);
        Check.due("1 went out", x.person(1, 0), 1);
        Check.due("second moment", x.moment(), 2);
        Check.due("0 came in", x.person(0, 0), 1);
        Check.due("0 was let in by 1", x.person(0, 7), 1);
        Check.due("0 came in once", x.person(0, 5), 1);
        Check.due("1 went out twice", x.person(1, 6), 2);
        Check.due("third moment", x.moment(), 0);
        Check.due("came in", x.count(7), 1);
        Check.due("went out", x.count(8), 2);
    }

    private static void manyAtOneDoor() {
        OutwardDoors x = Check.with("castle 2;door 0 1;person 1 0 0;person 0 1 0;person 1 0 0;person 1 0 0");
        Check.due("one for one", x.moment(), 2);
        Check.due("the first comes in", x.person(0, 0), 0);
        Check.due("the others stay", x.room(1, 1), 14);
        Check.due("let in by 1", x.person(0, 7), 1);
        OutwardDoors y = Check.with("castle 2;door 0 1;person 0 1 0;person 1 0 0;person 0 1 0;person 1 0 0");
        Check.due("two for two", y.moment(), 4);
        Check.due("1 by 0", y.person(1, 7), 0);
        Check.due("3 by 2", y.person(3, 7), 2);
        Check.due("0 by nobody", y.person(0, 7), -1);
    }

    private static void rules() {
        OutwardDoors x = Check.with("castle 4;door 0 2;door 0 1;door 1 3;person 0 3 0;person 0 1 9;person 3 0 0",
            "go 0 - 1 if pay > 0;go 1 if here >= 1;go 0", "go 1 if 1 = 2");
        x.force(0);
        Check.due("by a rule", x.moment(), 2);
        Check.due("0 took a step", x.person(0, 0), 1);
        Check.due("1 went out through the first door", x.person(1, 0), 2);
        Check.due("2 willed nothing", x.person(2, 0), 3);
        Check.due("no door out, nobody by", x.moment(), 0);
        x.force(1);
        Check.due("0 without a clause that holds", x.moment(), 0);
        x.force(-1);
        Check.due("without a rule", x.moment(), 2);
    }

    private static int willOf(String rule) {
        OutwardDoors x = Check.with("castle 4;door 0 1;door 1 2;far 3 7;night 1 1;door 0 3;"
            + "person 1 2 11;person 2 1 12;person 1 0 13;person 2 0 14", rule);
        x.force(0);
        x.ahead(0, 1);
        return x.ahead(0, 1) == 2 ? 1 : 0;
    }

    private static void words() {
        String[] hold = {"person = 0", "room = 1", "far = 1", "goal = 2", "left = 1", "pay = 11", "moment = 0",
            "night = 0", "here = 1", "in = 0", "out = 0", "asked = 2", "not 1 = 2", "[ 1 = 1 ]",
            "1 = 2 or 1 = 1 and 2 = 2", "1 = 1 or 1 = 1 and 1 = 2", "not 1 = 2 and 1 = 1", "not [ 1 = 2 and 1 = 1 ]",
            "not not 1 = 1", "1 < 2", "1 <= 1", "2 >= 2", "2 > 1", "here + asked = 3"};
        for (String test : hold) {
            Check.due(test, willOf("go 1 if " + test), 1);
            Check.due("not " + test, willOf("go 1 if not [ " + test + " ]"), 0);
        }
        OutwardDoors x = Check.with("castle 3;door 0 1;door 1 2;night 1 1;person 2 0 5;person 0 2 7",
            "go 1 if night = 1 and moment = 1 and out = 1 or person = 0;go 1 if out = 0;go 0");
        x.force(0);
        Check.due("out 0", x.moment(), 1);
        Check.due("by night", x.moment(), 2);
    }

    private static void arithmetic() {
        String[] hold = {"2 + 3 * 4 = 14", "20 - 3 - 2 = 15", "100 / 7 / 2 = 7", "17 % 5 * 2 = 4", "5 / 0 = 0",
            "5 % 0 = 0", "5 / 0 * 7 + 1 = 1", "0 - 7 < 0 - 6", "2 * 0 - 7 = 0 - 7",
            "65536 * 32768 * 65536 * 65536 < 0", "65536 * 32768 * 65536 * 65536 - 1 > 0",
            "65536 * 65536 * 65536 * 65536 = 0", "65536 * 32768 * 65536 * 65536 % 10 + 8 = 0",
            "1 * 65536 * 32768 * 65536 * 65536 / 10 < 0"};
        for (String test : hold) {
            Check.due(test, willOf("go 1 if " + test), 1);
        }
    }

    private static void aims() {
        OutwardDoors x = Check.with(ROW);
        Check.due("aim", x.aim(0, 1), 0);
        Check.due("goal", x.person(0, 1), 1);
        Check.due("aim so already", x.aim(0, 1), -1);
        Check.due("aim of nobody", x.aim(2, 1), -1);
        Check.due("aim at no room", x.aim(0, 3), -1);
        Check.due("aim at no room", x.aim(0, -1), -1);
        Check.due("acts", x.count(10), 1);
        Check.due("no moment", x.count(5), 0);
    }

    private static void sendings() {
        OutwardDoors x = Check.with(ROW);
        Check.due("not inward", x.send(0, 1, -1), false);
        Check.due("not beside", x.send(1, 1, -1), false);
        Check.due("nobody there to come in", x.send(1, 0, 0), false);
        Check.due("not oneself", x.send(1, 0, 1), false);
        Check.due("no such one", x.send(1, 0, 2), false);
        Check.due("no such one", x.send(1, 0, -2), false);
        Check.due("no such one", x.send(2, 0, -1), false);
        Check.due("no such door", x.send(1, 2, -1), false);
        Check.due("no such door", x.send(1, -1, -1), false);
        Check.due("nothing happened", x.count(10), 0);
        Check.due("out alone", x.send(1, 0, -1), true);
        Check.due("out with one in", x.send(1, 1, 0), true);
        Check.due("0 is in 1", x.person(0, 0), 1);
        Check.due("1 is in 2", x.person(1, 0), 2);
        Check.due("0 let in by 1", x.person(0, 7), 1);
        Check.due("0 came in", x.person(0, 5), 1);
        Check.due("1 went out", x.person(1, 6), 2);
        Check.due("no moment", x.count(5), 0);
        Check.due("acts", x.count(10), 2);
    }

    private static void undoing() {
        OutwardDoors x = Check.with(ROW);
        x.moment();
        x.aim(0, 2);
        x.aim(0, 0);
        x.send(1, 1, 0);
        Check.due("undo a sending", x.undo(), 3);
        Check.due("0 is back", x.person(0, 0), 2);
        Check.due("0 never came in", x.person(0, 5), 0);
        Check.due("0 let in by nobody", x.person(0, 7), -1);
        Check.due("undo an aim", x.undo(), 2);
        Check.due("goal", x.person(0, 1), 2);
        Check.due("undo an aim", x.undo(), 1);
        Check.due("undo a moment", x.undo(), 0);
        Check.due("moment 0", x.count(5), 0);
        Check.due("1 is back", x.person(1, 0), 0);
        Check.due("nothing more", x.undo(), -1);
        for (int k = 0; k < 25; k++) {
            x.aim(0, 1 + k % 2);
        }
        Check.due("20 acts", x.count(10), 20);
        for (int k = 19; k >= 0; k--) {
            Check.due("undo", x.undo(), k);
        }
        Check.due("the 21st can't be", x.undo(), -1);
        Check.due("goal of the fifth aim", x.person(0, 1), 1);
    }

    private static void lastMoment() {
        OutwardDoors x = Check.with(ROW);
        for (int k = 0; k < 999; k++) {
            x.moment();
        }
        Check.due("moment", x.count(5), 999);
        Check.due("no moment behind it", x.moment(), -1);
        Check.due("still", x.count(5), 999);
        Check.due("acts", x.count(10), 20);
    }

    private static void counts() {
        OutwardDoors x = Check.with(ROW + ";window 0 2;night 1 2", "go 1", "go 1");
        x.force(1);
        x.seed(5);
        x.moment();
        x.note(3, 1, 2);
        x.feed(0, 0, 0, 0, 0);
        int[] due = {3, 3, 2, 2, 1, 1, 1, 0, 1, 1, 1, 5, 20};
        for (int what = 0; what < due.length; what++) {
            Check.due("count " + what, x.count(what), due[what]);
        }
        Check.due("count 13", x.count(13), -1);
        Check.due("count -1", x.count(-1), -1);
    }
}
