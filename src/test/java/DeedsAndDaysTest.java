/** Promises 11 to 14: deeds, days. */
public final class DeedsAndDaysTest {
    private static final Check c = new Check();

    public static void main(String[] args) {
        deed();
        deedBySumsThatHangOnPurses();
        pass();
        at();
        when();
        bricks();
        share();
        c.end("DeedsAndDaysTest");
    }

    private static void deed() {
        WitnessPays x = new WitnessPays();
        c.due("deed(-1)", x.deed(-1), -1);
        c.due("deed(12)", x.deed(12), -1);
        c.due("nobody pays", x.deed(0), 0);
        x.one(5, 0, 4);
        x.one(0, 0, 5);
        x.one(0, 0, 3);
        c.due("20 by three: 6 and 2 more for the first, who is BLIND", x.deed(4), 4 + 6 + 6);
        c.due("purse 0", x.of(0, 3), 96);
        c.due("purse 1", x.of(1, 3), 94);
        c.due("purse 2", x.of(2, 3), 94);
        x.set(1, 1, 5);
        c.due("as far as the PURSE goes", x.deed(4), 4 + 5 + 6);
        c.due("purse 1 is empty", x.of(1, 3), 0);
        c.due("an empty one pays nothing, but has its SHARE", x.deed(4), 4 + 0 + 6);
        x.leave(0, true);
        c.due("two", x.deed(4), 0 + 10);
        x.leave(1, true);
        c.due("one", x.deed(4), 20);
        c.due("nobody sees it", x.deed(9), 0);
        Check.enact(x, "fine 99");
        x.set(2, 1, 100);
        c.due("fine 99", x.deed(3), 99);
        c.due("what is left", x.deed(3), 1);
        x.leave(0, false);
        Check.enact(x, "fine 1");
        x.set(0, 1, 50);
        x.set(2, 1, 50);
        c.due("fine 1 of two: half of one, cut, and none", x.deed(4), 0);
    }

    private static void deedBySumsThatHangOnPurses() {
        WitnessPays x = new WitnessPays();
        x.one(0, 0, 0);
        x.one(0, 0, 0);
        Check.enact(x, "near 2 m<1");
        c.due("all who see are found first", x.deed(2), 20);
        c.due("purse below 100", x.of(0, 3), 90);
        c.due("no REACH then", x.of(1, 5), 0);
        c.due("nobody", x.deed(2), 0);
    }

    private static void pass() {
        WitnessPays x = new WitnessPays();
        x.one(1, 5, 10);
        x.one(4, 1, 11);
        x.one(0, 5, 0);
        x.one(1, 3, 0);
        x.one(1, 2, 0);
        x.leave(4, true);
        c.due("pass(-1)", x.pass(-1), -2);
        c.due("pass(61)", x.pass(61), -2);
        c.due("pass(0)", x.pass(0), 0);
        c.due("pass(1)", x.pass(1), 1);
        c.due("WALKER by 5 modulo 3", x.of(0, 2), 0);
        c.due("THIEF by 1", x.of(1, 2), 0);
        c.due("ONE stays", x.of(2, 2), 0);
        c.due("WALKER by 0", x.of(3, 2), 0);
        c.due("a GONE one stays", x.of(4, 2), 0);
        c.due("pass(60)", x.pass(60), 61);
        c.due("120 places farther", x.of(0, 2), 0);
        c.due("pass(59)", x.pass(59), 120);
        c.due("118 places farther", x.of(0, 2), 10);
        c.due("119 places farther", x.of(1, 2), 11);
        for (int day = 180; day <= 9960; day += 60) {
            c.due("pass(60)", x.pass(60), day);
        }
        c.due("above 9999", x.pass(40), -3);
        c.due("BAD ahead of STATE", x.pass(61), -2);
        c.due("9999", x.pass(39), 9999);
        c.due("no more", x.pass(1), -3);
        c.due("none more", x.pass(0), 9999);
    }

    private static void at() {
        WitnessPays x = new WitnessPays();
        x.one(0, 0, 2);
        x.one(2, 0, 2);
        c.due("SEERS of 0", x.at(0, 0), 1);
        c.due("SEERS of 2", x.at(2, 0), 3);
        c.due("SEERS of 4", x.at(4, 0), 3);
        c.due("SEERS of 5", x.at(5, 0), 0);
        c.due("PAID for 0", x.at(0, 1), 20);
        x.set(0, 1, 3);
        c.due("PAID for 4", x.at(4, 1), 13);
        c.due("asked, not paid", x.told(3), 103);
        c.due("at what 4", x.at(0, 4), -1);
        c.due("at what -1", x.at(0, -1), -1);
        c.due("at place 12", x.at(12, 0), -1);
        c.due("at place -1", x.at(-1, 2), -1);
    }

    private static void when() {
        WitnessPays x = new WitnessPays();
        x.one(1, 1, 0);
        c.due("today", x.at(3, 2), 0);
        c.due("WALKER stands there", x.at(0, 2), 3);
        c.due("WALKER is seen coming", x.at(2, 2), 5);
        x.one(0, 0, 11);
        c.due("ONE stays", x.at(0, 2), -5);
        x.leave(1, true);
        x.pass(60);
        c.due("five times around, behind the place", x.at(0, 2), 3);
        Check.enact(x, "near 99 d=2");
        c.due("blind on a day of 2", x.at(0, 2), 2);
        c.due("DAY is as it was", x.told(0), 60);
        c.due("nor has it walked", x.of(0, 2), 0);
        WitnessPays y = new WitnessPays();
        y.one(0, 0, 0);
        Check.enact(y, "near 2 d=9");
        c.due("near by on day 9", y.at(2, 2), 9);
        for (int i = 0; i < 166; i++) {
            y.pass(60);
        }
        y.pass(39);
        c.due("today is day 9999", y.at(2, 2), 0);
        Check.enact(y, "near 2 d=8");
        c.due("beyond 9999", y.at(2, 2), 9);
        WitnessPays z = new WitnessPays();
        z.one(6, 0, 0);
        Check.enact(z, "near 2 d=9");
        z.row(0, 0, 9);
        z.row(0, 1, 9);
        z.row(0, 2, 9);
        c.due("day 19 is 3 modulo 4, the first with no ROW and no SUM", z.at(2, 2), 19);
        Check.enact(z, "far 9 d=9");
        z.row(0, 3, 9);
        c.due("none in 60 days", z.at(2, 2), -5);
    }

    private static void bricks() {
        WitnessPays x = new WitnessPays();
        c.due("nobody sees it", x.at(0, 3), 0);
        x.one(0, 0, 2);
        c.due("one stands there", x.at(2, 3), -5);
        c.due("between 2 and 4: the least", x.at(4, 3), 1 << 2);
        c.due("to the left: the least of two", x.at(0, 3), 1 << 0);
        c.due("next to it", x.at(1, 3), 1 << 1);
        x.one(0, 0, 6);
        c.due("from both sides", x.at(4, 3), 1 << 2 | 1 << 4);
        x.walls(1 << 5);
        c.due("one is there already", x.at(4, 3), 1 << 2);
        x.walls(1 << 3);
        c.due("the other is", x.at(4, 3), 1 << 4);
        x.walls(1 << 3 | 1 << 4);
        c.due("both are", x.at(4, 3), 0);
        x.walls(0);
        x.leave(1, true);
        Check.enact(x, "far 9 p=0");
        c.due("one sees it around both ways", x.at(4, 3), 1 << 0 | 1 << 2);
        x.set(0, 0, 11);
        c.due("over the end of the ring", x.at(1, 3), 1 << 0 | 1 << 1);
        c.due("the last pair", x.at(10, 3), 1 << 0 | 1 << 10);
        c.due("walls are as they were", x.told(2), 0);
        WitnessPays y = new WitnessPays();
        y.one(0, 0, 10);
        y.one(0, 0, 8);
        c.due("one wall before two ways' walls", y.at(11, 3), 1 << 10);
        c.due("pairs are compared as bits", y.at(9, 3), 1 << 8 | 1 << 9);
        y.one(2, 0, 7);
        c.due("three, two of them behind one wall", y.at(9, 3), 1 << 8 | 1 << 9);
    }

    private static void share() {
        WitnessPays x = new WitnessPays();
        x.one(0, 0, 0);
        x.one(5, 0, 1);
        x.one(0, 0, 1);
        c.due("first: what is left over, too", x.share(0, 1), 8);
        c.due("BLIND: half", x.share(1, 1), 3);
        c.due("third", x.share(2, 1), 6);
        x.set(2, 1, 4);
        c.due("its PURSE", x.share(2, 1), 4);
        c.due("sees it not", x.share(0, 6), 0);
        x.leave(0, true);
        c.due("GONE", x.share(0, 1), 0);
        c.due("two left", x.share(1, 1), 5);
        c.due("purse is whole", x.of(1, 3), 100);
        c.due("share person 3", x.share(3, 0), -1);
        c.due("share person -1", x.share(-1, 0), -1);
        c.due("share place 12", x.share(0, 12), -1);
        c.due("share place -1", x.share(0, -1), -1);
    }
}
