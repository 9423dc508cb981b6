/** Promises 15 to 20: seen, odds. */
public final class SeenAndOddsTest {
    private static final Check c = new Check();

    public static void main(String[] args) {
        see();
        wrong();
        from();
        can();
        odds();
        mean();
        c.end("SeenAndOddsTest");
    }

    private static void see() {
        WitnessPays x = new WitnessPays();
        c.due("see place 12", x.see(12, 0, 0), -1);
        c.due("see place -2", x.see(-2, 0, 0), -1);
        c.due("see n 21", x.see(0, 21, 0), -2);
        c.due("see n -1", x.see(0, -1, 0), -2);
        c.due("see who 64", x.see(0, 0, 64), -2);
        c.due("see who -1", x.see(0, 0, -1), -2);
        c.due("NONE ahead of BAD", x.see(12, 99, 99), -1);
        c.due("none of that came", x.count(2), 0);
        c.due("first", x.see(0, 0, 0), 1);
        c.due("second", x.see(11, 20, 63), 2);
        for (int n = 3; n <= 5; n++) {
            c.due("more", x.see(0, 0, 0), n);
        }
        c.due("sixth", x.see(0, 0, 0), -4);
        c.due("BAD ahead of FULL", x.see(0, 21, 0), -2);
        c.due("five", x.count(2), 5);
        c.due("none then", x.see(-1, 99, 99), 0);
        c.due("none", x.count(2), 0);
        c.due("first again", x.see(0, 0, 0), 1);
    }

    private static void wrong() {
        WitnessPays x = new WitnessPays();
        c.due("nothing SEEN is not false", x.wrong(), -5);
        x.see(5, 0, 0);
        c.due("nobody sees it", x.wrong(), -5);
        x.one(0, 0, 3);
        c.due("one does", x.wrong(), 0);
        x.see(-1, 0, 0);
        x.one(1, 1, 3);
        x.see(5, 0, 3);
        x.see(6, 1, 2);
        x.see(6, 5, 2);
        x.see(6, 6, 0);
        c.due("all so", x.wrong(), -5);
        x.see(6, 6, 2);
        c.due("the last is not", x.wrong(), 4);
        c.due("asked, not gone on", x.of(1, 2), 3);
        x.pass(1);
        c.due("from now on, and now is later: 6 in 5 days is false", x.wrong(), 2);
        x.leave(1, true);
        c.due("a GONE one sees nothing", x.wrong(), 0);
        x.see(-1, 0, 0);
        x.see(3, 0, 1);
        c.due("so", x.wrong(), -5);
        x.see(3, 0, 1 | 1 << 5);
        c.due("one who is not there sees nothing", x.wrong(), 1);
        WitnessPays y = new WitnessPays();
        y.one(4, 0, 0);
        for (int i = 0; i < 166; i++) {
            y.pass(60);
        }
        y.pass(39);
        y.see(1, 1, 1);
        y.see(1, 20, 0);
        c.due("beyond 9999", y.wrong(), -5);
        c.due("DAY stays", y.told(0), 9999);
    }

    private static void from() {
        WitnessPays x = new WitnessPays();
        c.due("from(0), nobody", x.from(0), -1);
        x.one(0, 0, 3);
        x.one(1, 1, 0);
        x.one(2, 0, 7);
        c.due("from(3)", x.from(3), -1);
        c.due("from(-1)", x.from(-1), -1);
        c.due("nothing SEEN", x.from(0), 4095);
        x.see(5, 0, 1);
        c.due("ONE within 2 of 5", x.from(0), 0b000011111000);
        c.due("WALKER not within 2 of 5", x.from(1), 0b111100000111);
        c.due("HAND not up to 2 to the left of 5", x.from(2), 0b111111000111);
        x.see(8, 3, 2);
        c.due("ONE not within 2 of 8", x.from(0), 0b000000111000);
        c.due("WALKER, 3 farther, within 2 of 8", x.from(1), 0b000010000000 & 0b111100000111 | 0b000000000000);
        x.see(-1, 0, 0);
        x.see(8, 3, 2);
        c.due("WALKER, 3 farther, within 2 of 8", x.from(1), 0b000011111000);
        x.leave(1, true);
        c.due("a GONE one saw nothing", x.from(1), 0);
        c.due("a GONE one that saw nothing", x.from(0), 0b100000111111);
        x.leave(0, true);
        c.due("a GONE one may be anywhere", x.from(0), 4095);
        c.due("it is where it was", x.of(1, 2), 0);
        WitnessPays y = new WitnessPays();
        y.one(0, 0, 0);
        Check.enact(y, "near 2 a=4");
        y.see(5, 0, 1);
        c.due("REACH by the place where it would be", y.from(0), 0b000011101000);
        y.walls(1 << 5);
        c.due("WALLS", y.from(0), 0b000000101000);
    }

    private static void can() {
        WitnessPays x = new WitnessPays();
        c.due("can(0, 0), nobody", x.can(0, 0), -1);
        x.one(1, 7, 0);
        x.one(0, 7, 0);
        c.due("can(2, 0)", x.can(2, 0), -1);
        c.due("can(-1, 0)", x.can(-1, 0), -1);
        c.due("can what 2", x.can(0, 2), -1);
        c.due("can what -1", x.can(0, -1), -1);
        c.due("nothing SEEN: all ten", x.can(0, 0), 10);
        c.due("the least", x.can(0, 1), 0);
        x.see(6, 5, 1);
        c.due("v modulo 3 is 1", x.can(0, 0), 3);
        c.due("the least is 1", x.can(0, 1), 1);
        c.due("ONE cannot have seen it, nor did it", x.can(1, 0), 10);
        x.see(0, 0, 0);
        c.due("but it did see 0", x.can(1, 0), 0);
        c.due("none", x.can(1, 1), -5);
        c.due("v is as it was", x.of(0, 1), 7);
        WitnessPays y = new WitnessPays();
        y.one(0, 0, 0);
        Check.enact(y, "far 3 v>6&v<9");
        y.see(5, 0, 1);
        c.due("by a TEST of v: 7 and 8", y.can(0, 0), 2);
        c.due("the least is 7", y.can(0, 1), 7);
    }

    private static void odds() {
        WitnessPays x = new WitnessPays();
        c.due("nobody", x.odds(0, 0), WitnessPays.NO);
        x.one(0, 0, 0);
        dueOdds(x, 0, 1, 1);
        dueOdds(x, 5, 1, 1);
        c.due("part 2", x.odds(0, 2), WitnessPays.NO);
        c.due("part -1", x.odds(0, -1), WitnessPays.NO);
        c.due("place 12", x.odds(12, 0), WitnessPays.NO);
        c.due("place -1", x.odds(-1, 0), WitnessPays.NO);
        x.one(0, 0, 1);
        dueOdds(x, 0, 0, 1);
        dueOdds(x, 3, 1, 2);
        x.one(0, 0, 9);
        x.one(0, 0, 9);
        dueOdds(x, 3, 1, 4);
        dueOdds(x, 5, 1, 1);
        dueOdds(x, 9, 0, 1);
        x.leave(3, true);
        dueOdds(x, 9, 1, 4);
        x.leave(2, true);
        dueOdds(x, 9, 1, 1);
        c.due("not GONE", x.of(0, 4), 0);
    }

    private static void dueOdds(WitnessPays x, int place, long above, long below) {
        c.due("odds(" + place + ", 0)", x.odds(place, 0), above);
        c.due("odds(" + place + ", 1)", x.odds(place, 1), below);
    }

    private static void mean() {
        WitnessPays x = new WitnessPays();
        dueMean(x, 0, 1);
        x.one(0, 0, 0);
        dueMean(x, 25, 3);
        x.set(0, 1, 1);
        dueMean(x, 5, 12);
        x.set(0, 1, 12);
        dueMean(x, 5, 1);
        x.walls(1 | 1 << 11);
        dueMean(x, 1, 1);
        c.due("part 2", x.mean(2), WitnessPays.NO);
        c.due("part -1", x.mean(-1), WitnessPays.NO);
        c.due("purse is whole", x.of(0, 3), 12);
    }

    private static void dueMean(WitnessPays x, long above, long below) {
        c.due("mean(0)", x.mean(0), above);
        c.due("mean(1)", x.mean(1), below);
    }
}
