/** Promises 1 to 10: people, laws, walls. */
public final class PeopleAndLawsTest {
    private static final Check c = new Check();

    public static void main(String[] args) {
        aNewObject();
        one();
        of();
        reachByKind();
        sight();
        shunAndAlone();
        set();
        leave();
        walls();
        row();
        feed();
        statute();
        faults();
        tests();
        told();
        c.end("PeopleAndLawsTest");
    }

    private static void aNewObject() {
        WitnessPays x = new WitnessPays();
        for (int what = 0; what <= 6; what++) {
            c.due("count(" + what + ") of a new object", x.count(what), 0);
        }
        c.due("day", x.told(0), 0);
        c.due("fine", x.told(1), 20);
        c.due("walls", x.told(2), 0);
        c.due("purses", x.told(3), 0);
        c.due("hidden", x.told(4), 0);
        c.due("hidden ones", x.told(5), 12);
        c.due("no image", x.undo(), -3);
        c.due("nobody", x.of(0, 0), -1);
        c.due("no tape", x.read(0, 0), WitnessPays.NO);
        c.due("NO", WitnessPays.NO, Long.MIN_VALUE);
    }

    private static void one() {
        WitnessPays x = new WitnessPays();
        c.due("one kind -1", x.one(-1, 0, 0), -1);
        c.due("one kind 7", x.one(7, 0, 0), -1);
        c.due("one place -1", x.one(0, 0, -1), -1);
        c.due("one place 12", x.one(0, 0, 12), -1);
        c.due("one v -1", x.one(0, -1, 0), -2);
        c.due("one v 10", x.one(0, 10, 0), -2);
        c.due("NONE is named ahead of BAD", x.one(0, 10, 12), -1);
        c.due("none came", x.count(0), 0);
        c.due("one first", x.one(0, 0, 0), 0);
        c.due("one last of all", x.one(6, 9, 11), 1);
        for (int i = 2; i < 6; i++) {
            c.due("one " + i, x.one(i, i, i), i);
        }
        c.due("seventh", x.one(0, 0, 0), -4);
        c.due("BAD is named ahead of FULL", x.one(0, 10, 0), -2);
        c.due("six", x.count(0), 6);
    }

    private static void of() {
        WitnessPays x = new WitnessPays();
        x.one(6, 7, 4);
        int[] due = {6, 7, 4, 100, 0, 4, 0b000111111111, 0, 0, -1};
        for (int what = 0; what < due.length; what++) {
            c.due("of(0, " + what + ")", x.of(0, what), due[what]);
        }
        c.due("of(0, -1)", x.of(0, -1), -1);
        c.due("of(1, 0)", x.of(1, 0), -1);
        c.due("of(-1, 0)", x.of(-1, 0), -1);
        x.leave(0, true);
        c.due("GONE", x.of(0, 4), 1);
        c.due("REACH of a GONE one", x.of(0, 5), 4);
        c.due("SIGHT of a GONE one", x.of(0, 6), 0);
        c.due("SHUN of a GONE one", x.of(0, 7), 0);
        c.due("ALONE of a GONE one", x.of(0, 8), -5);
    }

    private static void reachByKind() {
        dueReach("", 0, 2, 2, 2, 4, 2, 1, 11);
        dueReach("", 1, 2, 2, 2, 4, 0, 1, 7);
        dueReach("", 2, 2, 2, 2, 4, 2, 1, 4);
        dueReach("far 3 p=0", 2, 5, 5, 5, 10, 5, 2, 10);
        dueReach("far 3 p=0", 4, 5, 5, 5, 10, 5, 2, 11);
        dueReach("near 5 p=0", 4, 0, 0, 0, 0, 0, 0, 3);
        dueReach("near 5 p=0", 5, 0, 0, 0, 0, 0, 0, 0);
        dueReach("far 99 p=0;far 99 p=0", 5, 11, 11, 11, 11, 0, 11, 11);
        dueReach("far 99 p=0;near 90 p=0;near 10 p=0", 5, 1, 1, 1, 2, 0, 0, 5);
    }

    /** The answers that are due by KIND; ROWS are 9, 3, 0, 0. */
    private static void dueReach(String law, int day, int... due) {
        for (int kind = 0; kind < due.length; kind++) {
            WitnessPays x = new WitnessPays();
            x.one(kind, 0, 0);
            x.row(0, 0, 9);
            x.row(0, 1, 3);
            x.pass(day);
            Check.enact(x, law);
            c.due("REACH of KIND " + kind + ", DAY " + day + ", " + law, x.of(0, 5), due[kind]);
        }
    }

    private static void sight() {
        WitnessPays x = new WitnessPays();
        x.one(0, 0, 11);
        x.one(2, 0, 11);
        x.one(5, 0, 11);
        c.due("both ways around the ring", x.of(0, 6), 0b111000000011);
        c.due("HAND: to the right alone", x.of(1, 6), 0b100000000011);
        c.due("BLIND: to the right alone", x.of(2, 6), 0b100000000001);
        x.walls(1 << 11);
        c.due("a WALL to its right", x.of(0, 6), 0b111000000000);
        c.due("HAND behind a WALL", x.of(1, 6), 0b100000000000);
        x.walls(1 << 10);
        c.due("a WALL to its left", x.of(0, 6), 0b100000000011);
        x.walls(1 << 0);
        c.due("a WALL farther to the right", x.of(0, 6), 0b111000000001);
        x.walls(1 << 9);
        c.due("a WALL farther to the left", x.of(0, 6), 0b110000000011);
        x.walls(1 << 5);
        Check.enact(x, "far 9 p<9");
        c.due("all around, a WALL far off is seen from both sides", x.of(0, 6), 4095);
        c.due("HAND: as far as the WALL", x.of(1, 6), 0b100000111111);
        x.walls(4095);
        c.due("WALLS everywhere", x.of(0, 6), 1 << 11);
    }

    private static void shunAndAlone() {
        WitnessPays x = new WitnessPays();
        x.one(0, 0, 6);
        x.one(0, 0, 8);
        x.walls(0b000000011000);
        c.due("SHUN: the place between two walls", x.of(0, 7), 4);
        Check.enact(x, "near 2 a=9");
        c.due("SHUN: the first of several", x.of(0, 7), 4);
        x.walls(0);
        c.due("SHUN: REACH at that place", x.of(0, 7), 9);
        c.due("SHUN leaves one where it is", x.of(0, 2), 6);
        WitnessPays y = new WitnessPays();
        y.one(0, 0, 7);
        Check.enact(y, "far 9 p=0");
        c.due("SHUN: all is seen from everywhere", y.of(0, 7), 0);
        Check.enact(y, "far 9 p=0;near 6 a=3");
        c.due("SHUN: all but one is seen from there", y.of(0, 7), 3);
        c.due("ALONE of 0: 4", x.of(0, 8), 4);
        c.due("ALONE of 1: 9", x.of(1, 8), 9);
        x.set(1, 0, 6);
        c.due("ALONE of none", x.of(0, 8), -5);
        x.leave(0, true);
        c.due("ALONE beside a GONE one", x.of(1, 8), 4);
    }

    private static void set() {
        WitnessPays x = new WitnessPays();
        x.one(0, 0, 3);
        c.due("set place", x.set(0, 0, 11), 3);
        c.due("set place again", x.set(0, 0, 0), 11);
        c.due("set purse", x.set(0, 1, 9999), 100);
        c.due("set purse again", x.set(0, 1, 0), 9999);
        c.due("purse is", x.of(0, 3), 0);
        c.due("place is", x.of(0, 2), 0);
        c.due("set place 12", x.set(0, 0, 12), -2);
        c.due("set place -1", x.set(0, 0, -1), -2);
        c.due("set purse 10000", x.set(0, 1, 10000), -2);
        c.due("set purse -1", x.set(0, 1, -1), -2);
        c.due("set what 2", x.set(0, 2, 0), -1);
        c.due("set what -1", x.set(0, -1, 99999), -1);
        c.due("set person 1", x.set(1, 0, 99), -1);
        c.due("set person -1", x.set(-1, 0, 0), -1);
        c.due("purse still is", x.of(0, 3), 0);
    }

    private static void leave() {
        WitnessPays x = new WitnessPays();
        x.one(0, 0, 3);
        c.due("leave none", x.leave(1, true), -1);
        c.due("leave -1", x.leave(-1, true), -1);
        c.due("stay", x.leave(0, false), 0);
        c.due("leave", x.leave(0, true), 0);
        c.due("leave again", x.leave(0, true), 1);
        c.due("come back", x.leave(0, false), 1);
        c.due("is back", x.of(0, 4), 0);
        c.due("sees again", x.at(3, 0), 1);
    }

    private static void walls() {
        WitnessPays x = new WitnessPays();
        c.due("walls(4095)", x.walls(4095), 0);
        c.due("walls(4096)", x.walls(4096), -2);
        c.due("walls(-1)", x.walls(-1), -2);
        c.due("told(2)", x.told(2), 4095);
        c.due("walls(0)", x.walls(0), 4095);
        c.due("told(2)", x.told(2), 0);
    }

    private static void row() {
        WitnessPays x = new WitnessPays();
        x.one(6, 0, 0);
        x.one(3, 0, 0);
        for (int part = 0; part < 4; part++) {
            c.due("row first", x.row(0, part, 9 - part), 0);
        }
        for (int part = 0; part < 4; part++) {
            c.due("row again", x.row(0, part, 0), 9 - part);
        }
        c.due("row part 4", x.row(0, 4, 0), -1);
        c.due("row part -1", x.row(0, -1, 0), -1);
        c.due("row person 2", x.row(2, 0, 0), -1);
        c.due("row person -1", x.row(-1, 0, 10), -1);
        c.due("row n 10", x.row(0, 0, 10), -2);
        c.due("row n -1", x.row(0, 0, -1), -2);
        c.due("row of a MIRROR", x.row(1, 0, 0), -3);
        c.due("NONE ahead of STATE", x.row(1, 4, 0), -1);
        c.due("BAD ahead of STATE", x.row(1, 0, 10), -2);
    }

    private static void feed() {
        WitnessPays x = new WitnessPays();
        c.due("feed(-1)", x.feed(-1), -2);
        c.due("feed(128)", x.feed(128), -2);
        c.due("feed(0)", x.feed(0), 1);
        for (int n = 2; n <= 100; n++) {
            c.due("feed", x.feed(127), n);
        }
        c.due("the 101st", x.feed(1), -4);
        c.due("BAD ahead of FULL", x.feed(128), -2);
        c.due("count(5)", x.count(5), 100);
        c.due("a text of other signs", x.statute(), -10);
        c.due("it is empty then", x.count(5), 0);
        c.due("feed again", x.feed('f'), 1);
    }

    private static void statute() {
        WitnessPays x = new WitnessPays();
        x.one(0, 0, 0);
        c.due("first", Check.enact(x, "fine 7"), 0);
        c.due("it holds", x.told(1), 7);
        c.due("its text is gone", x.count(5), 0);
        c.due("a fault", Check.enact(x, "fine 8;"), -17);
        c.due("the first one holds", x.told(1), 7);
        c.due("a fault empties the text", x.count(5), 0);
        c.due("no number for it", x.count(1), 1);
        c.due("second", Check.enact(x, "fine 8;fine 00;fine 9"), 1);
        c.due("the last FINE", x.told(1), 9);
        c.due("third", Check.enact(x, "far 1 p=0"), 2);
        c.due("20 without", x.told(1), 20);
        c.due("SUM 3", x.of(0, 5), 3);
        c.due("the newest alone holds", Check.enact(x, "far 01 p=0;near 02 p=0;far 4 p=1"), 3);
        c.due("SUM 1", x.of(0, 5), 1);
        c.due("fifth", Check.enact(x, "fine 1"), 4);
        c.due("sixth", Check.enact(x, "fine 2"), 5);
        c.due("seventh", Check.enact(x, "fine 3"), -4);
        c.due("its text stays", x.count(5), 6);
        c.due("FULL, whatever THE TEXT is", Check.enact(x, "!"), -4);
        c.due("the sixth holds", x.told(1), 2);
        WitnessPays y = new WitnessPays();
        y.one(0, 0, 0);
        Check.enact(y, "fine 3;far 5 p=0;far 6 p=0&p=0|p=x");
        c.due("after a fault", Check.enact(y, "far 1 p=0"), 0);
        c.due("what was read ahead of it counts not: SUM", y.of(0, 5), 3);
        c.due("nor FINE", y.told(1), 20);
        StringBuilder many = new StringBuilder("far 1 p=0");
        for (int i = 0; i < 22; i++) {
            many.append("|p=0");
        }
        for (int i = 0; i < 5; i++) {
            c.due("a long text with a fault at its end", Check.enact(y, many + "!"), -10 - 97);
        }
        c.due("after many faults", Check.enact(y, "far 2 p=1|p=0"), 1);
        c.due("SUM", y.of(0, 5), 4);
        c.due("ten CLAUSES", Check.enact(y, "far 1 p=0;far 1 p=0;far 1 p=0;fine 5;fine 5;fine 5;fine 5;fine 5;fine 6;far 5 p<1"), 2);
        c.due("all count: SUM", y.of(0, 5), 10);
        c.due("FINE", y.told(1), 6);
        c.due("six", x.count(1), 6);
    }

    private static void faults() {
        dueFault("", 0);
        dueFault("g", 0);
        dueFault("F", 0);
        dueFault("f", 1);
        dueFault("fe", 1);
        dueFault("fa", 2);
        dueFault("fae", 2);
        dueFault("fir", 2);
        dueFault("fin ", 3);
        dueFault("near", 4);
        dueFault("nea ", 3);
        dueFault("nar ", 1);
        dueFault("far1", 3);
        dueFault("far  1", 4);
        dueFault("far p", 4);
        dueFault("far 1p", 5);
        dueFault("far 123 p=1", 6);
        dueFault("far 12", 6);
        dueFault("far 12 ", 7);
        dueFault("far 1  p=1", 6);
        dueFault("far 1 P=1", 6);
        dueFault("far 1 q=1", 6);
        dueFault("far 1 p!1", 7);
        dueFault("far 1 p=", 8);
        dueFault("far 1 p=x", 8);
        dueFault("far 1 p=123", 10);
        dueFault("far 1 p=1 ", 9);
        dueFault("far 1 p=1&", 10);
        dueFault("far 1 p=1||p=1", 10);
        dueFault("far 1 p=1)", 9);
        dueFault("far 1 (p=1", 10);
        dueFault("far 1 (p=1;", 10);
        dueFault("far 1 ()", 7);
        dueFault("far 1 !", 7);
        dueFault("far 1 p=1;", 10);
        dueFault("far 1 p=1;;", 10);
        dueFault("far 1 p=1 ;", 9);
        dueFault("fine", 4);
        dueFault("fine ", 5);
        dueFault("fine 1 p=1", 6);
        dueFault("fine 123", 7);
        dueFault("fine x", 5);
        dueFault("far 1 !!!!!p=1", 10);
        dueFault("far 1 (((((p=1", 10);
        dueFault("far 1 !(!(!p=1))", 10);
        dueFault("far 1 ((((p=1))))&((((p=1|!p=1))))", 26);
        dueFault("fine 1;fine 1;fine 1;fine 1;fine 1;fine 1;fine 1;fine 1;fine 1;fine 1;", 69);
        StringBuilder whole = new StringBuilder("far 1 p=1");
        for (int i = 0; i < 22; i++) {
            whole.append("|p=1");
        }
        dueFault(whole + "&!", 99);
        dueFault(whole + "&!(", 100);
        dueLaw(whole + "|");
        dueLaw("fine 1");
        dueLaw("fine 99");
        dueLaw("near 0 m>99");
        dueLaw("far 1 !!!!p=1");
        dueLaw("far 1 ((((p=1))))");
        dueLaw("far 1 !(!(p=1))&!(!(p=1))|((((d<7))))");
        dueLaw("fine 1;fine 1;fine 1;fine 1;fine 1;fine 1;fine 1;fine 1;fine 1;fine 1");
    }

    private static void dueFault(String text, int fault) {
        WitnessPays x = new WitnessPays();
        c.due("statute() of " + text, Check.enact(x, text), -10 - fault);
    }

    /** A text of 98 signs and one more is no law, as its end comes too early; without that sign it is. */
    private static void dueLaw(String text) {
        WitnessPays x = new WitnessPays();
        if (text.endsWith("|")) {
            c.due("statute() of " + text, Check.enact(x, text), -10 - text.length());
            c.due("one sign less", Check.enact(x, text.substring(0, text.length() - 1)), 0);
        } else {
            c.due("statute() of " + text, Check.enact(x, text), 0);
        }
    }

    private static void tests() {
        dueHolds("p=2", true);
        dueHolds("p<2", false);
        dueHolds("p<3", true);
        dueHolds("p>1", true);
        dueHolds("k=3", true);
        dueHolds("v=7", true);
        dueHolds("a=10", true);
        dueHolds("m=12", true);
        dueHolds("m>12", false);
        dueHolds("d=5", true);
        dueHolds("d>5", false);
        dueHolds("p=02", true);
        dueHolds("!p=2", false);
        dueHolds("!!p=2", true);
        dueHolds("p=0|p=1|p=2", true);
        dueHolds("p=0|p=1", false);
        dueHolds("p=2&p=1", false);
        dueHolds("p=1&p=2", false);
        dueHolds("p=0|p=2&p=1", false);
        dueHolds("p=2&k=3&v=6", false);
        dueHolds("p=0&k=0|v=7", true);
        dueHolds("v=7|p=0&k=0", true);
        dueHolds("(v=7|p=0)&k=0", false);
        dueHolds("!p=0&k=3", true);
        dueHolds("!(p=0|k=3)", false);
        dueHolds("!p=2|k=3", true);
        dueHolds("!p=2&k=3", false);
        dueHolds("!(!(p=2))", true);
        dueHolds("!(!(p=1))", false);
        dueHolds("p=0&(k=3|v=7)|!(a=10&d=4)", true);
    }

    private static void dueHolds(String expression, boolean holds) {
        WitnessPays x = new WitnessPays();
        x.one(0, 0, 0);
        x.one(0, 0, 0);
        x.one(3, 7, 10);
        x.set(2, 1, 1299);
        x.pass(60);
        x.pass(35);
        c.due("law", Check.enact(x, "near 99 p<9;far 98 p<9;far 3 " + expression), 0);
        c.due(expression, x.of(2, 5), holds ? 8 : 2);
    }

    private static void told() {
        WitnessPays x = new WitnessPays();
        x.one(0, 0, 2);
        x.one(5, 0, 3);
        x.one(0, 0, 3);
        x.set(0, 1, 5);
        x.leave(2, true);
        x.set(2, 1, 1000);
        x.pass(7);
        c.due("DAY", x.told(0), 7);
        c.due("PURSES, GONE ones' too", x.told(3), 1105);
        c.due("HIDDEN", x.told(4), 5);
        c.due("how many", x.told(5), 7);
        c.due("OPEN: first of two", x.told(6), 3);
        c.due("COSTLY: first of two", x.told(7), 3);
        x.set(1, 1, 0);
        c.due("COSTLY: first of all, the purse is all", x.told(7), 0);
        x.set(0, 1, 100);
        c.due("COSTLY: where the one pays alone", x.told(7), 0);
        x.leave(2, false);
        c.due("COSTLY beside a second", x.told(7), 0);
        c.due("OPEN with three", x.told(6), 3);
        Check.enact(x, "far 9 p=0");
        c.due("HIDDEN: none", x.told(4), -5);
        c.due("none", x.told(5), 0);
        for (int what = 4; what <= 7; what++) {
            WitnessPays y = new WitnessPays();
            y.one(0, 0, 0);
            y.one(0, 0, 4);
            y.told(what);
            y.set(0, 0, 11);
            y.leave(1, true);
            int[] due = {2, 7, 0, 0};
            c.due("told(" + what + ") asked behind a change", y.told(what), due[what - 4]);
            y.set(0, 0, 7);
            due = new int[] {0, 7, 5, 5};
            c.due("told(" + what + ") asked behind another", y.told(what), due[what - 4]);
            y.leave(0, true);
            y.leave(1, false);
            Check.enact(y, "near 1 p=1");
            due = new int[] {0, 9, 3, 3};
            c.due("told(" + what + ") asked behind a third", y.told(what), due[what - 4]);
        }
        c.due("told(8)", x.told(8), -1);
        c.due("told(-1)", x.told(-1), -1);
    }
}
