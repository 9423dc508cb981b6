/** Each promise's bounds from within: the least and the most that is taken, none at all, as many as there may be. */
public final class PromisesEdgesTest {
    private static final int LEAST = Integer.MIN_VALUE, MOST = Integer.MAX_VALUE;
    private static final Check c = new Check();

    public static void main(String[] args) {
        one();
        oneWhereAnotherWas();
        of();
        set();
        leave();
        walls();
        row();
        feed();
        statute();
        told();
        deed();
        pass();
        atAndShare();
        see();
        plan();
        book();
        undo();
        act();
        taken();
        count();
        tape();
        item();
        shift();
        c.end("PromisesEdgesTest");
    }

    /** Promises 1 and 2. */
    private static void one() {
        WitnessPays x = new WitnessPays();
        c.due("nobody", x.of(0, 0), -1);
        c.due("least kind, v, place", x.one(0, 0, 0), 0);
        c.due("most", x.one(6, 9, 11), 1);
        c.due("third", x.one(0, 9, 0), 2);
        c.due("fourth", x.one(6, 0, 0), 3);
        c.due("fifth", x.one(0, 0, 11), 4);
        c.due("sixth", x.one(6, 9, 0), 5);
        c.due("seventh", x.one(0, 0, 0), -4);
        int[] kinds = {0, 6, 0, 6, 0, 6}, vs = {0, 9, 9, 0, 0, 9}, places = {0, 11, 0, 0, 11, 0};
        for (int i = 0; i < 6; i++) {
            c.due("KIND of " + i, x.of(i, 0), kinds[i]);
            c.due("v of " + i, x.of(i, 1), vs[i]);
            c.due("PLACE of " + i, x.of(i, 2), places[i]);
            c.due("PURSE of " + i, x.of(i, 3), 100);
            c.due("GONE, " + i, x.of(i, 4), 0);
        }
        c.due("no seventh", x.of(6, 0), -1);
    }

    /** Who comes where another had been, ahead of undo(), has nothing of it. */
    private static void oneWhereAnotherWas() {
        WitnessPays x = new WitnessPays();
        x.image();
        x.one(6, 9, 11);
        x.set(0, 1, 7);
        x.leave(0, true);
        for (int part = 0; part < 4; part++) {
            x.row(0, part, 9);
        }
        x.undo();
        c.due("comes", x.one(6, 1, 2), 0);
        int[] due = {6, 1, 2, 100, 0, 4};
        for (int what = 0; what <= 5; what++) {
            c.due("of the new one, " + what, x.of(0, what), due[what]);
        }
        for (int part = 0; part < 4; part++) {
            c.due("ROW of the new one, " + part, x.row(0, part, 0), 0);
        }
    }

    /** Promise 3: of GONE ones. */
    private static void of() {
        for (int kind = 0; kind <= 6; kind++) {
            WitnessPays x = new WitnessPays();
            x.one(kind, 4, 11);
            x.walls(1 << 9 | 1 << 10 | 1 << 11);
            int reach = x.of(0, 5);
            c.due("SHUN", x.of(0, 7), kind == 2 || kind == 5 ? 9 : 10);
            c.due("ALONE", x.of(0, 8), 11);
            x.leave(0, true);
            int[] due = {kind, 4, 11, 100, 1, reach, 0, 0, -5, -1};
            for (int what = 0; what <= 9; what++) {
                c.due("of a GONE one of KIND " + kind + ", " + what, x.of(0, what), due[what]);
            }
        }
    }

    /** Promise 4. */
    private static void set() {
        WitnessPays x = new WitnessPays();
        x.one(0, 0, 5);
        c.due("the most PLACE", x.set(0, 0, 11), 5);
        c.due("the least PLACE", x.set(0, 0, 0), 11);
        c.due("the same PLACE", x.set(0, 0, 0), 0);
        c.due("the most PURSE", x.set(0, 1, 9999), 100);
        c.due("the least PURSE", x.set(0, 1, 0), 9999);
        c.due("the same PURSE", x.set(0, 1, 0), 0);
        x.leave(0, true);
        c.due("of a GONE one: PLACE", x.set(0, 0, 7), 0);
        c.due("of a GONE one: PURSE", x.set(0, 1, 8), 0);
        c.due("PLACE", x.of(0, 2), 7);
        c.due("PURSE", x.of(0, 3), 8);
    }

    /** Promise 5. */
    private static void leave() {
        WitnessPays x = new WitnessPays();
        for (int i = 0; i < 6; i++) {
            x.one(0, 0, 0);
        }
        for (int i = 0; i < 6; i++) {
            c.due("stays", x.leave(i, false), 0);
            c.due("goes", x.leave(i, true), 0);
            c.due("is GONE", x.leave(i, true), 1);
            c.due("who SEES", x.at(0, 0), 63 & -2 << i);
        }
        for (int i = 0; i < 6; i++) {
            c.due("comes back", x.leave(i, false), 1);
            c.due("who SEES", x.at(0, 0), (2 << i) - 1);
        }
    }

    /** Promise 6. */
    private static void walls() {
        WitnessPays x = new WitnessPays();
        int before = 0;
        for (int bits : new int[] {4095, 0, 1, 2048, 4095, 4095, 0, 0}) {
            c.due("walls(" + bits + ")", x.walls(bits), before);
            c.due("told(2)", x.told(2), bits);
            before = bits;
        }
    }

    /** Promise 7. */
    private static void row() {
        WitnessPays x = new WitnessPays();
        x.one(6, 0, 0);
        x.leave(0, true);
        for (int part = 0; part < 4; part++) {
            c.due("the most", x.row(0, part, 9), 0);
            c.due("the least", x.row(0, part, 0), 9);
            c.due("its part", x.row(0, part, part + 1), 0);
        }
        for (int part = 0; part < 4; part++) {
            c.due("part " + part + " alone", x.row(0, part, 0), part + 1);
        }
        for (int kind = 0; kind < 6; kind++) {
            WitnessPays y = new WitnessPays();
            y.one(kind, 0, 0);
            c.due("KIND " + kind, y.row(0, 0, 0), -3);
        }
    }

    /** Promise 8. */
    private static void feed() {
        WitnessPays x = new WitnessPays();
        c.due("the least sign", x.feed(0), 1);
        c.due("the most", x.feed(127), 2);
        x.statute();
        for (int n = 1; n <= 100; n++) {
            c.due("sign " + n, x.feed(n), n);
        }
        c.due("one more", x.feed(1), -4);
        x.statute();
        c.due("from the beginning", x.feed(1), 1);
    }

    /** Promise 9. */
    private static void statute() {
        WitnessPays x = new WitnessPays();
        c.due("nothing in THE TEXT", x.statute(), -10);
        for (int n = 0; n < 6; n++) {
            c.due("a LAW", Check.enact(x, "fine 1" + n), n);
            c.due("it holds", x.told(1), 10 + n);
            c.due("THE TEXT is empty then", x.count(5), 0);
            if (n < 5) {
                c.due("a FAULT", Check.enact(x, "fine 99."), -17);
                c.due("the one that held holds", x.told(1), 10 + n);
                c.due("THE TEXT is empty then", x.count(5), 0);
                c.due("it is no LAW", x.count(1), n + 1);
            }
        }
        c.due("FULL, nothing in THE TEXT", x.statute(), -4);
        c.due("FULL", Check.enact(x, "fine 99"), -4);
        c.due("THE TEXT stays", x.count(5), 7);
        c.due("FULL again", x.statute(), -4);
        c.due("FULL, with a FAULT in THE TEXT", Check.enact(x, "."), -4);
        c.due("THE TEXT stays", x.count(5), 8);
        c.due("the sixth holds", x.told(1), 15);
    }

    /** Promise 10. */
    private static void told() {
        WitnessPays x = new WitnessPays();
        for (int i = 0; i < 6; i++) {
            x.one(0, 0, 11);
            x.set(i, 1, 9999);
        }
        x.leave(3, true);
        c.due("the most PURSES, GONE ones' too", x.told(3), 59994);
        Check.enact(x, "fine 99;far 9 p<9");
        c.due("the most FINE", x.told(1), 99);
        c.due("HIDDEN: none", x.told(4), -5);
        c.due("how many", x.told(5), 0);
        for (int i = 0; i < 6; i++) {
            x.set(i, 1, 0);
        }
        c.due("the least PURSES", x.told(3), 0);
        c.due("COSTLY, as nobody can PAY", x.told(7), 0);
    }

    /** Promise 11. */
    private static void deed() {
        WitnessPays x = new WitnessPays();
        x.one(0, 0, 0);
        c.due("at 0", x.deed(0), 20);
        c.due("at 11", x.deed(11), 20);
        c.due("where nobody SEES it", x.deed(6), 0);
        for (int n = 3; n >= 1; n--) {
            c.due("on and on", x.deed(1), 20);
        }
        c.due("an empty PURSE", x.deed(1), 0);
        x.leave(0, true);
        c.due("GONE", x.deed(0), 0);
    }

    /** Promise 12. */
    private static void pass() {
        WitnessPays x = new WitnessPays();
        c.due("none", x.pass(0), 0);
        for (int day = 60; day <= 9900; day += 60) {
            c.due("the most", x.pass(60), day);
        }
        x.pass(40);
        c.due("10000", x.pass(60), -3);
        c.due("is as it was", x.pass(0), 9940);
        c.due("9999", x.pass(59), 9999);
        c.due("10000", x.pass(1), -3);
        c.due("none", x.pass(0), 9999);
        WitnessPays y = new WitnessPays();
        for (int day = 60; day <= 9900; day += 60) {
            y.pass(60);
        }
        y.pass(39);
        c.due("the most to 9999", y.pass(60), 9999);
    }

    /** Promises 13 and 14. */
    private static void atAndShare() {
        WitnessPays x = new WitnessPays();
        x.one(0, 0, 0);
        x.one(0, 0, 11);
        c.due("SEERS of 0", x.at(0, 0), 3);
        c.due("SEERS of 11", x.at(11, 0), 3);
        c.due("SEERS of 2", x.at(2, 0), 1);
        c.due("SEERS of 9", x.at(9, 0), 2);
        c.due("PAID for 11", x.at(11, 1), 20);
        c.due("PAID where nobody SEES it", x.at(5, 1), 0);
        c.due("WHEN of 11", x.at(11, 2), -5);
        c.due("BRICKS for 11", x.at(11, 3), -5);
        c.due("share of 0 at 11", x.share(0, 11), 10);
        c.due("share of 1 at 0", x.share(1, 0), 10);
        c.due("share where nobody SEES it", x.share(1, 5), 0);
        x.set(0, 1, 9);
        c.due("share as far as its PURSE goes", x.share(0, 0), 9);
    }

    /** Promise 15. */
    private static void see() {
        WitnessPays x = new WitnessPays();
        c.due("none of none", x.see(-1, 0, 0), 0);
        c.due("the least", x.see(0, 0, 0), 1);
        c.due("the most", x.see(11, 20, 63), 2);
        c.due("third", x.see(0, 20, 0), 3);
        c.due("fourth", x.see(11, 0, 0), 4);
        c.due("fifth", x.see(0, 0, 63), 5);
        c.due("sixth", x.see(0, 0, 0), -4);
        c.due("none then, whatever the others are", x.see(-1, LEAST, MOST), 0);
        c.due("none", x.count(2), 0);
        c.due("none of none, whatever the others are", x.see(-1, 21, 64), 0);
        c.due("nothing is false of none", x.wrong(), -5);
        c.due("one again", x.see(11, 20, 0), 1);
    }

    /** Promise 21. */
    private static void plan() {
        WitnessPays x = new WitnessPays();
        x.one(0, 0, 0);
        x.one(0, 0, 0);
        c.due("none of none", x.plan(-1, 0), 0);
        c.due("a DAY, n the least", x.plan(0, LEAST), 1);
        c.due("a DAY, n the most", x.plan(0, MOST), 2);
        c.due("a DEED at 0", x.plan(1, 0), 3);
        c.due("a DEED at 11", x.plan(1, 11), 4);
        c.due("a WALL to the right of 0", x.plan(2, 0), 5);
        c.due("a WALL to the right of 11", x.plan(2, 11), 6);
        c.due("PERSON 0", x.plan(3, 0), 7);
        c.due("the last PERSON", x.plan(3, 1), 8);
        c.due("no such PERSON", x.plan(3, 2), -1);
        x.leave(1, true);
        c.due("a GONE one", x.plan(3, 1), 9);
        c.due("tenth", x.plan(0, -1), 10);
        c.due("eleventh", x.plan(0, 0), -4);
        c.due("ends", x.ends(0), 160);
        c.due("none then, whatever the other is", x.plan(-1, LEAST), 0);
        c.due("none of none, whatever the other is", x.plan(-1, MOST), 0);
        c.due("first again", x.plan(1, 0), 1);
        c.due("ends of one row", x.ends(0), 180);
        c.due("only what is planned goes", x.ends(1), 7);
    }

    /** Promise 23. */
    private static void book() {
        WitnessPays x = new WitnessPays();
        c.due("none of none, nobody there", x.book(-1, 0), 0);
        for (int i = 0; i < 6; i++) {
            x.one(0, 0, 0);
        }
        x.leave(5, true);
        c.due("the least", x.book(0, 0), 1);
        c.due("the most, a GONE one", x.book(5, 9999), 2);
        for (int n = 3; n <= 8; n++) {
            c.due("row " + n, x.book(0, n), n);
        }
        c.due("ninth", x.book(0, 0), -4);
        c.due("none then, whatever the other is", x.book(-1, LEAST), 0);
        c.due("none of none, whatever the other is", x.book(-1, MOST), 0);
        c.due("first again", x.book(5, 9999), 1);
        c.due("it is otherwise", x.looked(), 0);
    }

    /** Promises 26 and 27. */
    private static void undo() {
        WitnessPays x = new WitnessPays();
        c.due("no IMAGE", x.undo(), -3);
        c.due("no IMAGE still", x.undo(), -3);
        c.due("of nobody", x.image(), 0);
        c.due("nobody", x.undo(), 0);
        for (int many = 1; many <= 6; many++) {
            x.one(0, 0, 0);
            c.due("of " + many, x.image(), many);
            x.one(0, 0, 0);
            c.due("as it was", x.undo(), many);
            c.due("PEOPLE", x.count(0), many);
        }
    }

    /** Promises 28 and 29: 0, and no TRACE then. */
    private static void act() {
        int[][] none = {{-1, 0}, {1, 0}, {LEAST, 0}, {MOST, 0}, {0, -1}, {0, 3}, {0, LEAST}, {0, MOST}, {6, 3}};
        for (int[] row : none) {
            WitnessPays x = new WitnessPays();
            x.one(0, 0, 0);
            c.due("an act", x.act(0, 2, 7), 14);
            c.due("its TRACE", x.trace(2), 10);
            c.due("bodies", x.count(6), 3);
            c.due("no act", x.act(row[0], row[1], 7), 0);
            c.due("no TRACE then", x.trace(0), -1);
            c.due("no bodies", x.count(6), 0);
        }
        WitnessPays x = new WitnessPays();
        c.due("an act of nobody", x.act(0, 0, 5), 0);
        for (int i = 0; i < 6; i++) {
            x.one(0, 9 - i, 0);
        }
        c.due("the last one looks", x.act(5, 0, 0), 5);
        c.due("the last one swears", x.act(5, 1, 0), 1);
        c.due("the last one tells", x.act(5, 2, 0), 2);
        c.due("the first body", x.trace(0), 12);
        c.due("the last body", x.trace(2), 10);
        c.due("behind the last", x.trace(3), -1);
        c.due("ahead of the first", x.trace(-1), -1);
    }

    /** Promise 30. */
    private static void taken() {
        boolean[][] is = {
            {true, false, false, false, false, false, false}, {true, true, false, false, false, false, false},
            {true, false, true, false, false, false, false}, {true, false, false, true, false, false, false},
            {true, true, false, false, true, false, false}, {true, false, true, false, false, true, false},
            {true, false, false, true, false, false, true},
        };
        for (int kind = 0; kind <= 6; kind++) {
            WitnessPays x = new WitnessPays();
            x.one(kind, 0, 0);
            x.leave(0, true);
            for (int k = 0; k <= 6; k++) {
                c.due("KIND " + kind + ", GONE, taken for " + k, x.taken(0, k), is[kind][k] ? kind : -12);
            }
        }
        c.due("nobody", new WitnessPays().taken(0, 6), -11);
    }

    /** Promise 31: none of each, and the most of each. */
    private static void count() {
        WitnessPays x = new WitnessPays();
        for (int what = 0; what <= 6; what++) {
            c.due("none: " + what, x.count(what), 0);
        }
        for (int n = 0; n < 6; n++) {
            x.one(6, 0, 0);
            Check.enact(x, "fine 1");
        }
        for (int n = 0; n < 11; n++) {
            x.see(0, 0, 0);
            x.plan(0, 0);
            x.book(0, 0);
        }
        for (int n = 0; n < 101; n++) {
            x.feed(0);
        }
        x.act(5, 2, 0);
        int[] most = {6, 6, 5, 10, 8, 100, 12};
        for (int what = 0; what <= 6; what++) {
            c.due("the most: " + what, x.count(what), most[what]);
        }
    }

    /** Promise 32. */
    private static void tape() {
        for (int tape = 0; tape <= 5; tape++) {
            for (int sort = 0; sort <= 4; sort++) {
                WitnessPays x = new WitnessPays();
                c.due("a row of 60", x.tape(tape, sort, 60), 1);
                for (int i = 0; i < 60; i++) {
                    c.due("all 0", x.read(tape, i), 0);
                    x.item(tape, i, 1);
                }
                c.due("no more", x.read(tape, 60), WitnessPays.NO);
                c.due("61 are refused", x.tape(tape, sort, 61), -2);
                c.due("and change nothing", x.read(tape, 59), 1);
                c.due("a row of 1", x.tape(tape, sort, 1), 1);
                c.due("0", x.read(tape, 0), 0);
                c.due("no second", x.read(tape, 1), WitnessPays.NO);
                c.due("a row of 60 again", x.tape(tape, sort, 60), 1);
                c.due("the last is 0", x.read(tape, 59), 0);
                c.due("a row of none", x.tape(tape, sort, 0), 1);
                c.due("is a row: no such place", x.item(tape, 0, 1), -13);
                c.due("none of it comes to itself", x.shift(tape, 0, tape, 0, 0), 0);
            }
        }
        WitnessPays x = new WitnessPays();
        for (int n : new int[] {0, 60, 61, -1, LEAST, MOST}) {
            x.tape(5, 0, 3);
            c.due("nothing, n " + n, x.tape(5, -1, n), 1);
            c.due("nothing is there", x.item(5, 0, 1), -11);
            c.due("nothing once more", x.tape(5, -1, n), 1);
        }
    }

    /** Promises 33 and 34: the least and the most that an item holds, and one beyond either. */
    private static void item() {
        long[][] most = {{Byte.MIN_VALUE, Byte.MAX_VALUE}, {Short.MIN_VALUE, Short.MAX_VALUE}, {LEAST, MOST}};
        WitnessPays x = new WitnessPays();
        for (int sort = 0; sort <= 4; sort++) {
            x.tape(sort, sort, 1);
        }
        for (int sort = 0; sort <= 2; sort++) {
            dueItem(x, sort, most[sort][0], most[sort][0]);
            dueItem(x, sort, most[sort][1], most[sort][1]);
            dueItem(x, sort, most[sort][0] - 1, most[sort][1]);
            dueItem(x, sort, most[sort][1] + 1, most[sort][0]);
            dueItem(x, sort, Long.MIN_VALUE, 0);
            dueItem(x, sort, Long.MAX_VALUE, -1);
        }
        dueItem(x, 3, Long.MIN_VALUE, Long.MIN_VALUE);
        dueItem(x, 3, Long.MIN_VALUE + 1, Long.MIN_VALUE + 1);
        dueItem(x, 3, Long.MAX_VALUE, Long.MAX_VALUE);
        for (long v : new long[] {1, -1, 2, 256, 1L << 32, Long.MIN_VALUE, Long.MAX_VALUE}) {
            dueItem(x, 4, v, 1);
            dueItem(x, 4, 0, 0);
        }
    }

    private static void dueItem(WitnessPays x, int tape, long v, long due) {
        c.due("item(" + tape + ", 0, " + v + ")", x.item(tape, 0, v), 1);
        c.due("read(" + tape + ", 0)", x.read(tape, 0), due);
    }

    /** Promise 35: none, all, as they all were before. */
    private static void shift() {
        WitnessPays x = new WitnessPays();
        x.tape(0, 3, 60);
        x.tape(5, 3, 60);
        for (int i = 0; i < 60; i++) {
            x.item(0, i, i + 1);
        }
        c.due("all 60", x.shift(0, 0, 5, 0, 60), 60);
        dueRow(x, 5, 0);
        c.due("all 60 to itself", x.shift(0, 0, 0, 0, 60), 60);
        dueRow(x, 0, 0);
        c.due("none from the end to the end", x.shift(0, 60, 5, 60, 0), 0);
        c.due("none to itself", x.shift(5, 60, 5, 0, 0), 0);
        dueRow(x, 5, 0);
        c.due("59 to the right in itself", x.shift(0, 0, 0, 1, 59), 59);
        dueRow(x, 0, 1);
        c.due("59 to the left in itself", x.shift(5, 1, 5, 0, 59), 59);
        dueRow(x, 5, -1);
        c.due("the last to the first", x.shift(5, 59, 0, 0, 1), 1);
        c.due("the first", x.read(0, 0), 60);
        c.due("the second", x.read(0, 1), 1);
    }

    /** A row that was 1 .. 60 and has come so far to the right, what was beyond its ends staying. */
    private static void dueRow(WitnessPays x, int tape, int by) {
        for (int i = 0; i < 60; i++) {
            int was = Math.max(1, Math.min(60, i + 1 - by));
            c.due("read(" + tape + ", " + i + ")", x.read(tape, i), was);
        }
    }
}
