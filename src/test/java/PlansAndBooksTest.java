/** Promises 21 to 24: plans, books. */
public final class PlansAndBooksTest {
    private static final Check c = new Check();

    public static void main(String[] args) {
        plan();
        ends();
        book();
        looked();
        c.end("PlansAndBooksTest");
    }

    private static void plan() {
        WitnessPays x = new WitnessPays();
        c.due("plan what 4", x.plan(4, 0), -1);
        c.due("plan what -2", x.plan(-2, 0), -1);
        c.due("plan a deed at 12", x.plan(1, 12), -1);
        c.due("plan a deed at -1", x.plan(1, -1), -1);
        c.due("plan a wall at 12", x.plan(2, 12), -1);
        c.due("plan a wall at -1", x.plan(2, -1), -1);
        c.due("plan for nobody", x.plan(3, 0), -1);
        c.due("none came", x.count(3), 0);
        x.one(0, 0, 0);
        c.due("plan person 0", x.plan(3, 0), 1);
        c.due("plan person 1", x.plan(3, 1), -1);
        c.due("plan person -1", x.plan(3, -1), -1);
        c.due("a day, whatever n is", x.plan(0, -99), 2);
        c.due("a deed", x.plan(1, 11), 3);
        c.due("a wall", x.plan(2, 11), 4);
        for (int n = 5; n <= 10; n++) {
            c.due("more", x.plan(1, 0), n);
        }
        c.due("eleventh", x.plan(0, 0), -4);
        c.due("NONE ahead of FULL", x.plan(1, 12), -1);
        c.due("ten", x.count(3), 10);
        c.due("it is empty then", x.plan(-1, 99), 0);
        c.due("none", x.count(3), 0);
        c.due("first again", x.plan(0, 0), 1);
    }

    private static void ends() {
        WitnessPays x = new WitnessPays();
        c.due("ends(2)", x.ends(2), -1);
        c.due("ends(-1)", x.ends(-1), -1);
        x.one(1, 1, 0);
        x.one(0, 0, 6);
        dueEnds(x, 200, 2);
        x.plan(1, 8);
        dueEnds(x, 180, 2);
        x.plan(1, 9);
        dueEnds(x, 180, 2);
        x.plan(0, 0);
        dueEnds(x, 180, 2);
        x.plan(1, 3);
        dueEnds(x, 160, 2);
        x.plan(1, 10);
        dueEnds(x, 160, 2);
        x.plan(2, 6);
        dueEnds(x, 160, 4);
        x.plan(1, 8);
        dueEnds(x, 160, 4);
        x.plan(2, 6);
        dueEnds(x, 160, 2);
        x.plan(3, 0);
        dueEnds(x, 160, 7);
        x.plan(1, 1);
        dueEnds(x, 160, 7);
        c.due("all is as it was: DAY", x.told(0), 0);
        c.due("PLACE", x.of(0, 2), 0);
        c.due("PURSES", x.told(3), 200);
        c.due("WALLS", x.told(2), 0);
        c.due("GONE", x.of(0, 4), 0);
        x.walls(1 << 6);
        x.set(1, 1, 15);
        x.leave(0, true);
        c.due("goes on from how all is", x.ends(0), 100);
        x.plan(-1, 0);
        dueEnds(x, 115, 9);
        WitnessPays y = new WitnessPays();
        y.one(0, 0, 0);
        Check.enact(y, "near 2 d=0;near 2 m<1");
        for (int i = 0; i < 166; i++) {
            y.pass(60);
        }
        y.pass(39);
        y.plan(1, 2);
        dueEnds(y, 80, 11);
        y.plan(1, 2);
        dueEnds(y, 80, 11);
        y.plan(-1, 0);
        y.plan(0, 0);
        dueEnds(y, 100, 11);
    }

    private static void dueEnds(WitnessPays x, int purses, int places) {
        c.due("ends(0) of " + x.count(3) + " rows", x.ends(0), purses);
        c.due("ends(1) of " + x.count(3) + " rows", x.ends(1), places);
    }

    private static void book() {
        WitnessPays x = new WitnessPays();
        c.due("book nobody", x.book(0, 0), -1);
        x.one(0, 0, 0);
        c.due("book person 1", x.book(1, 0), -1);
        c.due("book person -2", x.book(-2, 0), -1);
        c.due("book purse -1", x.book(0, -1), -2);
        c.due("book purse 10000", x.book(0, 10000), -2);
        c.due("NONE ahead of BAD", x.book(1, 10000), -1);
        c.due("none came", x.count(4), 0);
        c.due("first", x.book(0, 0), 1);
        c.due("second", x.book(0, 9999), 2);
        for (int n = 3; n <= 8; n++) {
            c.due("more", x.book(0, 1), n);
        }
        c.due("ninth", x.book(0, 0), -4);
        c.due("BAD ahead of FULL", x.book(0, -1), -2);
        c.due("eight", x.count(4), 8);
        c.due("it is empty then", x.book(-1, -1), 0);
        c.due("none", x.count(4), 0);
        c.due("first again", x.book(0, 0), 1);
    }

    private static void looked() {
        WitnessPays x = new WitnessPays();
        c.due("an empty book", x.looked(), -5);
        x.one(0, 0, 0);
        x.one(0, 0, 5);
        x.book(0, 100);
        x.book(1, 100);
        x.book(0, 80);
        c.due("the third is otherwise", x.looked(), 2);
        x.deed(0);
        c.due("the first is", x.looked(), 0);
        x.set(0, 1, 100);
        x.set(1, 1, 0);
        c.due("the second is", x.looked(), 1);
        x.set(1, 1, 100);
        x.book(-1, 0);
        x.book(1, 100);
        x.book(0, 100);
        c.due("none", x.looked(), -5);
        x.leave(1, true);
        c.due("GONE or not", x.looked(), -5);
    }
}
