/** Promises 14 to 27, 29 and 30: what is asked, notes, draws, images. */
public final class AskTest {
    private static final String ROW = "castle 3;door 0 1;door 1 2;person 2 0 5;person 0 2 7";
    private static final String THREE = ROW + ";person 1 1 9";

    public static void main(String[] args) {
        ahead();
        comes();
        fewest();
        firstRow();
        caught();
        page();
        price();
        turned();
        swap();
        notes();
        ruled();
        look();
        draws();
        days();
        images();
        Check.finish("AskTest");
    }

    private static void ahead() {
        OutwardDoors x = Check.with(ROW, "go 0");
        Check.due("now", x.ahead(1, 0), 0);
        Check.due("ahead 1", x.ahead(1, 1), 1);
        Check.due("ahead 2", x.ahead(0, 2), 1);
        Check.due("ahead 100", x.ahead(0, 100), 1);
        Check.due("ahead 101", x.ahead(0, 101), -1);
        Check.due("ahead -1", x.ahead(0, -1), -1);
        Check.due("ahead of nobody", x.ahead(2, 1), -1);
        x.force(0);
        Check.due("by the rule", x.ahead(1, 9), 0);
        Check.due("nothing changed", x.count(5), 0);
    }

    private static void comes() {
        OutwardDoors x = Check.with(ROW, "go 1 if moment = 50 or moment = 150", "go 1 if moment = 0 or moment = 200",
            "go 1 if moment = 0 or moment = 199");
        Check.due("in 2", x.comes(1), 2);
        Check.due("never", x.comes(0), -2);
        Check.due("nobody", x.comes(2), -1);
        x.force(0);
        Check.due("late", x.comes(1), 151);
        x.force(1);
        Check.due("too late", x.comes(1), -2);
        x.force(2);
        Check.due("in the last moment", x.comes(1), 200);
        x.force(-1);
        x.moment();
        Check.due("still in 2", x.comes(1), 2);
        x.force(1);
        Check.due("in the last moment from now", x.comes(1), 201);
        x.force(-1);
        x.moment();
        x.moment();
        Check.due("there already", x.comes(1), 3);
    }

    private static void fewest() {
        OutwardDoors x = Check.with(ROW);
        Check.due("of nobody", x.fewest(0), 0);
        Check.due("of 0", x.fewest(1), -2);
        Check.due("of 1", x.fewest(2), 2);
        Check.due("of both", x.fewest(3), -2);
        Check.due("of others", x.fewest(4), -1);
        Check.due("of others", x.fewest(-1), -1);
        OutwardDoors y = Check.with(THREE);
        Check.due("of 0, with one more", y.fewest(1), 2);
        Check.due("of 0 and 1", y.fewest(3), 3);
        Check.due("of all", y.fewest(7), 3);
        Check.due("of 2", y.fewest(4), 0);
        Check.due("nothing changed", y.count(10), 0);
        OutwardDoors z = Check.with("castle 2");
        Check.due("without people", z.fewest(0), 0);
        Check.due("without people", z.fewest(1), -1);
    }

    private static void row(OutwardDoors x, int people, int[][] due) {
        for (int k = 0; k < due.length; k++) {
            for (int what = 0; what < 3; what++) {
                Check.due("passing " + people + " " + k + " " + what, x.passing(people, k, what), due[k][what]);
            }
        }
        Check.due("no more passings", x.passing(people, due.length, 0), -2);
    }

    private static void firstRow() {
        OutwardDoors x = Check.with(THREE);
        row(x, 1, new int[][] {{2, 1, 0}, {1, 0, 0}});
        row(x, 3, new int[][] {{1, 0, 2}, {1, 1, 0}, {2, 0, 0}});
        row(x, 2, new int[][] {{1, 0, -1}, {1, 1, -1}});
        row(x, 0, new int[][] {});
        row(x, 7, new int[][] {{1, 0, 2}, {1, 1, 0}, {2, 0, 0}});
        row(Check.with(ROW), 3, new int[][] {});
        OutwardDoors y = Check.with("castle 4;door 0 2;door 0 1;door 2 3;door 1 3;person 0 3 0;person 0 2 0");
        row(y, 1, new int[][] {{0, 0, -1}, {0, 2, -1}});
        row(y, 3, new int[][] {{0, 0, -1}, {0, 2, -1}, {1, 0, -1}});
        Check.due("what 3", x.passing(1, 0, 3), -3);
        Check.due("what -1", x.passing(1, 0, -1), -3);
        Check.due("what 3 behind", x.passing(1, 9, 3), -3);
        Check.due("others", x.passing(8, 0, 0), -3);
        Check.due("others", x.passing(-1, 0, 0), -3);
    }

    private static void caught() {
        OutwardDoors x = Check.with(ROW);
        Check.due("not to the goal", x.caught(0), 1);
        Check.due("nowhere", x.caught(1), 0);
        Check.due("what 2", x.caught(2), -1);
        Check.due("what -1", x.caught(-1), -1);
        OutwardDoors y = Check.with("castle 3;door 0 1;person 1 1 0;person 1 0 0;person 2 2 0");
        Check.due("at the goal is not caught", y.caught(0), 2);
        Check.due("nobody gets away", y.caught(1), 7);
        OutwardDoors z = Check.with("castle 2");
        Check.due("without people", z.caught(0), 0);
    }

    private static void page() {
        OutwardDoors x = Check.with(ROW);
        Check.due("a page in 1", x.page(0, 0), 1);
        Check.due("two passings", x.page(0, 1), 2);
        Check.due("whoever needs none", x.page(1, 0), 0);
        Check.due("whoever needs none", x.page(1, 1), 2);
        Check.due("what 2", x.page(0, 2), -1);
        Check.due("what -1", x.page(0, -1), -1);
        Check.due("nobody", x.page(2, 0), -1);
        OutwardDoors y = Check.with("castle 3;door 0 1;door 1 2;person 2 0 0");
        Check.due("one page is not enough", y.page(0, 0), -2);
        Check.due("one page is not enough", y.page(0, 1), -2);
        OutwardDoors z = Check.with("castle 8;door 6 7;far 6 9;person 6 7 0;person 6 6 0;person 0 0 0;person 0 0 0");
        Check.due("four and a page", z.page(0, 0), 7);
        Check.due("four and a page", z.page(0, 1), 1);
        Check.due("at the goal", z.page(2, 0), 0);
        Check.due("at the goal", z.page(2, 1), 0);
    }

    private static void price() {
        OutwardDoors x = Check.with(THREE);
        Check.due("of 0", x.price(0), 16);
        Check.due("of 1", x.price(1), 0);
        Check.due("there", x.price(2), 0);
        Check.due("nobody", x.price(3), -1);
        Check.due("nobody", x.price(-1), -1);
        Check.due("can't", Check.with(ROW).price(0), -2);
        OutwardDoors y = Check.with("castle 3;door 0 1;door 1 2;person 2 0 0;person 1 1 50;person 0 0 3;person 0 0 4");
        Check.due("more passings for less pay", y.price(0), 10);
        Check.due("fewer for more", y.fewest(1), 2);
    }

    private static void turned() {
        OutwardDoors x = Check.with(ROW + ";window 0 2;night 5 6");
        Check.due("door 0", x.turned(0, 1), 3);
        Check.due("door 1", x.turned(1, 1), 2);
        Check.due("a window by day", x.turned(2, 1), -1);
        Check.due("no door", x.turned(3, 1), -1);
        Check.due("no door", x.turned(-1, 1), -1);
        Check.due("nobody", x.turned(0, 4), -1);
        Check.due("of none", x.turned(0, 0), 0);
        OutwardDoors y = Check.with("castle 3;door 0 1;door 1 2;person 2 0 0");
        Check.due("can't", y.turned(0, 1), -2);
    }

    private static void swap() {
        OutwardDoors x = Check.with(ROW);
        Check.due("one two", x.swap(0), 1);
        Check.due("the lesser", x.swap(1), 0);
        Check.due("the greater", x.swap(2), 1);
        Check.due("what 3", x.swap(3), -1);
        Check.due("what -1", x.swap(-1), -1);
        OutwardDoors y = Check.with("castle 3;door 0 1;person 0 0 0;person 2 1 0;person 1 2 0;person 0 2 0");
        Check.due("from no way to one", y.swap(0), 2);
        Check.due("the lesser", y.swap(1), 1);
        Check.due("the greater", y.swap(2), 2);
        OutwardDoors z = Check.with("castle 2;person 0 1 0");
        Check.due("none", z.swap(0), 0);
        Check.due("none", z.swap(1), -2);
        Check.due("none", z.swap(2), -2);
    }

    private static void notes() {
        OutwardDoors x = Check.with(ROW);
        Check.due("first", x.note(0, 0, 0), 1);
        Check.due("n 61", x.note(61, 0, 0), -2);
        Check.due("n -2", x.note(-2, 0, 0), -2);
        Check.due("nobody", x.note(0, 2, 0), -2);
        Check.due("no room", x.note(0, 0, 3), -2);
        for (int k = 2; k <= 10; k++) {
            Check.due("note " + k, x.note(60, 1, 2), k);
        }
        Check.due("an 11th", x.note(60, 1, 2), -2);
        Check.due("count 9", x.count(9), 10);
        Check.due("none", x.note(-1, 99, 99), 0);
        Check.due("count 9", x.count(9), 0);
        Check.due("notes are no acts", x.count(10), 0);
    }

    private static void ruled() {
        OutwardDoors x = Check.with(ROW, "go 0", "go 1", "go 1 if moment > 0");
        Check.due("without notes all", x.ruled(0), 4);
        Check.due("none is first", x.ruled(1), -1);
        x.note(1, 1, 0);
        Check.due("two stay", x.ruled(0), 2);
        Check.due("0 is first", x.ruled(1), 0);
        x.moment();
        x.aim(1, 0);
        x.note(3, 1, 2);
        Check.due("from the begin on", x.ruled(0), 1);
        Check.due("as the text told it", x.ruled(1), 2);
        x.note(60, 1, 0);
        Check.due("none such", x.ruled(0), 0);
        Check.due("none such", x.ruled(1), -2);
        Check.due("what 2", x.ruled(2), -3);
        Check.due("what -1", x.ruled(-1), -3);
    }

    private static void look() {
        OutwardDoors x = Check.with(ROW, "go 0", "go 1", "go 1 if moment > 0");
        Check.due("at 0 all are alike", x.look(0, 0), 0);
        Check.due("at 0 all are alike", x.look(0, 1), 4);
        Check.due("at 1 by 1", x.look(1, 0), 1);
        Check.due("at 1 two and two", x.look(1, 1), 2);
        Check.due("at 2 0 parts two and two", x.look(2, 0), 0);
        Check.due("at 2 1 parts no better", x.look(2, 1), 2);
        x.note(1, 1, 0);
        Check.due("at 2 by 1", x.look(2, 0), 1);
        Check.due("at 2 one and one", x.look(2, 1), 1);
        Check.due("n 61", x.look(61, 0), -1);
        Check.due("n -1", x.look(-1, 0), -1);
        Check.due("what 2", x.look(0, 2), -1);
        x.note(0, 0, 0);
        Check.due("no rule is so", x.look(2, 0), -2);
        Check.due("no rule is so", x.look(2, 1), -2);
        OutwardDoors y = Check.with("castle 2");
        Check.due("no people", y.look(0, 0), -2);
    }

    private static void draws() {
        OutwardDoors x = new OutwardDoors();
        Check.due("seed at first", x.seed(7), 0);
        Check.due("seed below 0", x.seed(-1), -1);
        Check.due("seed", x.seed(2147483647), 7);
        Check.due("count 11", x.count(11), 2147483647);
        Check.due("seed", x.seed(0), 2147483647);
    }

    /** By x 0 the draws are 0 21468, 9988 22117, 3498 16927, 16045 19741, 12122 8410, 12261 27052: two to a moment. */
    private static void days() {
        OutwardDoors x = Check.with("castle 2;door 0 1;person 0 0 0;person 0 0 0");
        Check.due("0, 21468: nothing", x.days(1, 1, 1), 0);
        Check.due("9988, 22117: person 0 goes out", x.days(1, 2, 1), 1);
        Check.due("3498, 16927: they are there", x.days(1, 3, 1), 1);
        Check.due("16045, 19741: person 1 goes out", x.days(1, 4, 1), 2);
        Check.due("nobody comes in", x.days(1, 6, 0), 0);
        Check.due("each time from now: person 0 goes out twice", x.days(2, 2, 1), 3);
        Check.due("the goal is as now, too: person 0 goes out two times of four", x.days(4, 1, 1), 3);
        Check.rule(x, "go 1 if moment = 0");
        x.force(0);
        Check.due("the moment is as now, too", x.days(4, 1, 1), 3);
        Check.due("each time one moment alone", x.days(2, 2, 1), 1);
        x.force(-1);
        Check.due("x as it was", x.count(11), 0);
        Check.due("nothing stays", x.person(0, 0), 0);
        Check.due("nothing stays", x.person(0, 1), 0);
        Check.due("m 0", x.days(0, 5, 0), -1);
        Check.due("m 11", x.days(11, 5, 0), -1);
        Check.due("n 0", x.days(1, 0, 0), -1);
        Check.due("n 61", x.days(1, 61, 0), -1);
        Check.due("what 2", x.days(1, 1, 2), -1);
        Check.due("what -1", x.days(1, 1, -1), -1);
        OutwardDoors y = Check.with("castle 2");
        Check.due("without people", y.days(10, 60, 0), 0);
        OutwardDoors z = Check.with("castle 2;door 0 1;person 0 0 0;person 1 0 0");
        Check.due("person 0 goes out", z.days(1, 2, 1), 1);
        Check.due("and lets person 1 in", z.days(1, 2, 0), 1);
        Check.due("from now, both times", z.days(2, 2, 0), 2);
    }

    private static void images() {
        OutwardDoors x = new OutwardDoors();
        Check.due("an image of nothing", x.image(3), 0);
        Check.due("never made", x.back(0), -1);
        Check.due("image 4", x.image(4), -1);
        Check.due("image -1", x.image(-1), -1);
        Check.due("back 4", x.back(4), -1);
        Check.due("back -1", x.back(-1), -1);
        Check.castle(x, ROW);
        Check.rule(x, "go 1");
        x.force(0);
        x.seed(9);
        x.moment();
        x.note(1, 1, 1);
        Check.due("image", x.image(0), 1);
        Check.castle(x, "castle 5;person 4 4 4");
        Check.rule(x, "go 2");
        x.force(1);
        x.seed(10);
        x.feed(0, 0, 0, 0, 0);
        Check.due("back", x.back(0), 1);
        int[] due = {3, 2, 2, 2, 0, 1, 0, 0, 1, 1, 0, 9, 20};
        for (int what = 0; what < due.length; what++) {
            Check.due("count " + what + " as in the image", x.count(what), due[what]);
        }
        Check.due("1 is in 1", x.person(1, 0), 1);
        Check.due("nothing can be undone", x.undo(), -1);
        x.moment();
        x.note(-1, 0, 0);
        x.note(0, 0, 0);
        Check.due("no rule is so", x.ruled(0), 0);
        Check.due("an image stays as it was", x.back(0), 1);
        Check.due("its notes too", x.ruled(0), 3);
        Check.due("nothing can be undone", x.count(10), 0);
        Check.due("nothing can be undone", x.undo(), -1);
        Check.due("back to nothing", x.back(3), 0);
        Check.due("no castle", x.count(0), 0);
        Check.due("no rule in force", x.count(4), -1);
        Check.due("no moment", x.moment(), -1);
    }
}
