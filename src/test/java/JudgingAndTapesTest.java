/** Promises 25 to 35: judging, the image, acts, tapes. */
public final class JudgingAndTapesTest {
    private static final Check c = new Check();
    private static final long NO = WitnessPays.NO;

    public static void main(String[] args) {
        judge();
        image();
        imageOfAllThatIsTheirs();
        lawOfTheImage();
        act();
        trace();
        taken();
        count();
        tape();
        item();
        read();
        shift();
        c.end("JudgingAndTapesTest");
    }

    private static void judge() {
        WitnessPays x = new WitnessPays();
        x.one(0, 0, 3);
        c.due("tape -1", x.judge(-1, 0), -1);
        c.due("tape 6", x.judge(6, 0), -1);
        c.due("holds nothing", x.judge(0, 0), 100);
        c.due("holds nothing, place below 0", x.judge(0, -1), 100);
        for (int sort = 1; sort <= 4; sort++) {
            x.tape(1, sort, 12);
            c.due("no bytes", x.judge(1, 0), -12);
            c.due("CAST, whatever the place", x.judge(1, -1), -12);
        }
        x.tape(0, 0, 14);
        c.due("place 1 is seen", x.judge(0, 0), 1);
        for (int place = 1; place <= 5; place++) {
            x.item(0, 2 + place, 1);
        }
        c.due("so", x.judge(0, 2), -5);
        c.due("from 0 on", x.judge(0, 0), 1);
        c.due("from 3 on", x.judge(0, 3), 0);
        c.due("below 0", x.judge(0, -1), 100);
        c.due("at the end", x.judge(0, 14), 100);
        c.due("far beyond", x.judge(0, Integer.MAX_VALUE), 100);
        c.due("far below", x.judge(0, Integer.MIN_VALUE), 100);
        c.due("one ahead of the end", x.judge(0, 13), 101);
        c.due("place 1 is looked at", x.judge(0, 12), 1);
        x.item(0, 4, 2);
        c.due("2 is otherwise", x.judge(0, 2), 2);
        x.item(0, 4, -1);
        c.due("-1 is otherwise", x.judge(0, 2), 2);
        x.item(0, 4, 257);
        c.due("257 is 1", x.judge(0, 2), -5);
        x.tape(2, 0, 0);
        c.due("a row of none", x.judge(2, 0), 100);
        x.tape(2, 0, 11);
        for (int place = 1; place <= 5; place++) {
            x.item(2, place, 1);
        }
        c.due("eleven are so", x.judge(2, 0), 111);
        x.leave(0, true);
        c.due("GONE", x.judge(2, 0), 1);
    }

    private static void image() {
        WitnessPays x = new WitnessPays();
        c.due("none", x.undo(), -3);
        c.due("of nobody", x.image(), 0);
        x.one(0, 0, 0);
        x.one(0, 0, 0);
        c.due("nobody then", x.undo(), 0);
        c.due("nobody", x.count(0), 0);
        c.due("newly come", x.one(6, 1, 2), 0);
        x.row(0, 0, 5);
        x.leave(0, true);
        x.set(0, 1, 7);
        x.undo();
        x.one(6, 0, 0);
        c.due("who comes is new: PURSE", x.of(0, 3), 100);
        c.due("GONE", x.of(0, 4), 0);
        c.due("ROW", x.row(0, 0, 0), 0);
        c.due("one", x.image(), 1);
        x.one(0, 0, 0);
        c.due("one again", x.undo(), 1);
        c.due("and again", x.undo(), 1);
    }

    private static void imageOfAllThatIsTheirs() {
        WitnessPays x = new WitnessPays();
        x.one(6, 1, 2);
        x.row(0, 1, 4);
        x.set(0, 1, 77);
        x.walls(9);
        x.pass(5);
        x.see(3, 4, 5);
        x.plan(0, 0);
        x.plan(1, 2);
        x.book(0, 77);
        x.feed('f');
        x.tape(0, 0, 3);
        x.act(0, 2, 0);
        c.due("image", x.image(), 1);
        int wrong = x.wrong();
        int ends = x.ends(0);
        x.one(3, 2, 1);
        x.set(0, 0, 9);
        x.set(0, 1, 1);
        x.leave(0, true);
        x.row(0, 1, 0);
        x.walls(0);
        x.pass(1);
        x.see(-1, 0, 0);
        x.see(0, 0, 0);
        x.see(0, 0, 0);
        x.plan(-1, 0);
        x.book(-1, 0);
        x.book(1, 3);
        x.book(1, 4);
        x.feed('a');
        x.item(0, 1, 5);
        x.tape(1, 1, 1);
        x.act(0, 0, 0);
        c.due("undo", x.undo(), 1);
        c.due("PEOPLE", x.count(0), 1);
        c.due("PLACE", x.of(0, 2), 2);
        c.due("PURSE", x.of(0, 3), 77);
        c.due("GONE", x.of(0, 4), 0);
        c.due("ROW", x.row(0, 1, 4), 4);
        c.due("WALLS", x.told(2), 9);
        c.due("DAY", x.told(0), 5);
        c.due("SEEN", x.count(2), 1);
        c.due("SEEN as it was", x.wrong(), wrong);
        c.due("PLAN", x.count(3), 2);
        c.due("PLAN as it was", x.ends(0), ends);
        c.due("BOOK", x.count(4), 1);
        c.due("BOOK as it was", x.looked(), -5);
        c.due("THE TEXT is not in it", x.count(5), 2);
        c.due("TAPES are not", x.read(0, 1), 5);
        c.due("TAPES are not", x.read(1, 0), 0);
        c.due("THE TRACE is not", x.count(6), 2);
        x.see(-1, 0, 0);
        x.plan(-1, 0);
        x.book(-1, 0);
        x.undo();
        c.due("THE IMAGE keeps", x.count(2) + x.count(3) + x.count(4), 4);
    }

    private static void lawOfTheImage() {
        WitnessPays x = new WitnessPays();
        x.image();
        c.due("first", Check.enact(x, "fine 1"), 0);
        x.undo();
        c.due("none holds", x.told(1), 20);
        c.due("but there is one", x.count(1), 1);
        c.due("second", Check.enact(x, "fine 2"), 1);
        x.image();
        c.due("third", Check.enact(x, "fine 3"), 2);
        c.due("it holds", x.told(1), 3);
        x.undo();
        c.due("the second holds", x.told(1), 2);
        Check.enact(x, "fine");
        c.due("a fault changes nothing of that", x.told(1), 2);
        c.due("fourth", Check.enact(x, "fine 4"), 3);
        c.due("it holds", x.told(1), 4);
    }

    private static void act() {
        dueAct(0, 3, 0, 5, 5 + 1, 10);
        dueAct(0, 3, 1, 5, 6 - 3, 11, 10);
        dueAct(0, 3, 2, 5, (6 - 3) * 2, 12, 11, 10);
        dueAct(1, 3, 0, 5, 6, 10);
        dueAct(1, 3, 1, 5, 3 ^ 6, 20, 11, 10);
        dueAct(1, 3, 2, 5, (3 ^ 6) * 2, 12, 20, 11, 10);
        dueAct(2, 3, 0, 5, 16, 30, 10);
        dueAct(2, 3, 1, 5, 13, 11, 30, 10);
        dueAct(2, 3, 2, 5, 26, 12, 11, 30, 10);
        dueAct(3, 3, 0, 5, 6, 10);
        dueAct(3, 3, 1, 5, 3, 11, 10);
        dueAct(3, 3, 2, 5, 6 + (2 - 3), 40, 12, 11, 10, 11, 10);
        dueAct(4, 3, 0, 5, -6, 50, 10);
        dueAct(4, 3, 1, 5, (-7 - 3) ^ 6, 51, 20, 11, 50, 10);
        dueAct(4, 3, 2, 5, ((-7 - 3) ^ 6) * 2, 12, 51, 20, 11, 50, 10);
        dueAct(5, 3, 0, 5, 16, 30, 10);
        dueAct(5, 3, 1, 5, 13, 11, 30, 10);
        dueAct(5, 3, 2, 5, (4 * 3 + 1 - 3) * 2, 60, 12, 11, 30, 10);
        dueAct(6, 3, 0, 5, 6 ^ 3, 71, 10);
        dueAct(6, 3, 1, 5, (6 ^ 3) - 3 + 3, 70, 11, 71, 10, 10);
        dueAct(6, 3, 2, 5, ((6 ^ 3) - 3 + 3) * 2 + ((2 ^ 3) - 3 + 3),
                40, 12, 70, 11, 71, 10, 10, 70, 11, 71, 10, 10);
        dueAct(0, 0, 0, Integer.MAX_VALUE, Integer.MIN_VALUE, 10);
        dueAct(2, 0, 0, Integer.MAX_VALUE, Integer.MAX_VALUE - 1, 30, 10);
        dueAct(0, 0, 2, Integer.MAX_VALUE, 0, 12, 11, 10);
        dueAct(0, 9, 1, Integer.MIN_VALUE, Integer.MAX_VALUE - 7, 11, 10);
        dueAct(4, 0, 0, Integer.MAX_VALUE, Integer.MIN_VALUE, 50, 10);
    }

    /** The acting one is number 1, so that its number counts. */
    private static void dueAct(int kind, int v, int act, int n, int due, int... bodies) {
        WitnessPays x = new WitnessPays();
        x.one(0, 0, 0);
        x.one(kind, v, 0);
        String call = "act " + act + " of KIND " + kind;
        c.due(call, x.act(1, act, n), due);
        c.due("count(6) of " + call, x.count(6), bodies.length);
        for (int i = 0; i < bodies.length; i++) {
            c.due("trace(" + i + ") of " + call, x.trace(i), bodies[i]);
        }
        c.due("trace behind " + call, x.trace(bodies.length), -1);
    }

    private static void trace() {
        WitnessPays x = new WitnessPays();
        c.due("no act yet", x.trace(0), -1);
        x.one(6, 1, 0);
        x.act(0, 2, 1);
        c.due("trace(-1)", x.trace(-1), -1);
        c.due("trace(11)", x.trace(11), 10);
        c.due("trace(12)", x.trace(12), -1);
        c.due("trace(20)", x.trace(20), -1);
        x.leave(0, true);
        x.act(0, 0, 1);
        c.due("a GONE one acts; the latest act alone", x.count(6), 2);
        c.due("trace(0)", x.trace(0), 71);
        c.due("trace(2)", x.trace(2), -1);
        c.due("no such act", x.act(0, 3, 1), 0);
        c.due("no TRACE then", x.trace(0), -1);
        c.due("none ran", x.count(6), 0);
        x.act(0, 0, 1);
        c.due("no such act", x.act(0, -1, 1), 0);
        c.due("none ran", x.count(6), 0);
        x.act(0, 0, 1);
        c.due("no such one", x.act(1, 0, 1), 0);
        c.due("none ran", x.count(6), 0);
        x.act(0, 0, 1);
        c.due("no such one", x.act(-1, 0, 1), 0);
        c.due("no TRACE", x.trace(0), -1);
    }

    private static void taken() {
        int[] above = {-1, 0, 0, 0, 1, 2, 3};
        for (int kind = 0; kind <= 6; kind++) {
            WitnessPays x = new WitnessPays();
            x.one(kind, 0, 0);
            for (int k = 0; k <= 6; k++) {
                boolean is = k == kind || k == above[kind] || k == 0;
                c.due("KIND " + kind + " taken for " + k, x.taken(0, k), is ? kind : -12);
            }
            c.due("k -1", x.taken(0, -1), -2);
            c.due("k 7", x.taken(0, 7), -2);
            c.due("no such one", x.taken(1, 0), -11);
            c.due("no such one", x.taken(-1, 6), -11);
            c.due("BAD ahead of NOTHING", x.taken(1, 7), -2);
        }
    }

    private static void count() {
        WitnessPays x = new WitnessPays();
        x.one(0, 0, 0);
        for (int i = 0; i < 2; i++) {
            Check.enact(x, "fine 1");
        }
        for (int i = 0; i < 3; i++) {
            x.see(0, 0, 0);
        }
        for (int i = 0; i < 4; i++) {
            x.plan(0, 0);
        }
        for (int i = 0; i < 5; i++) {
            x.book(0, 0);
        }
        for (int i = 0; i < 6; i++) {
            x.feed('f');
        }
        x.act(0, 2, 0);
        int[] due = {1, 2, 3, 4, 5, 6, 3};
        for (int what = 0; what < due.length; what++) {
            c.due("count(" + what + ")", x.count(what), due[what]);
        }
        c.due("count(7)", x.count(7), -2);
        c.due("count(-1)", x.count(-1), -2);
    }

    private static void tape() {
        WitnessPays x = new WitnessPays();
        c.due("tape -1", x.tape(-1, 0, 0), -1);
        c.due("tape 6", x.tape(6, 0, 0), -1);
        c.due("sort 5", x.tape(0, 5, 0), -2);
        c.due("sort -2", x.tape(0, -2, 0), -2);
        c.due("n 61", x.tape(0, 0, 61), -2);
        c.due("n -1", x.tape(0, 0, -1), -14);
        c.due("NONE ahead of BAD", x.tape(6, 9, -1), -1);
        c.due("BAD ahead of SIZE", x.tape(0, 5, -1), -2);
        c.due("it holds nothing", x.item(0, 0, 0), -11);
        c.due("60", x.tape(0, 4, 60), 1);
        c.due("read the last", x.read(0, 59), 0);
        c.due("put the last", x.item(0, 59, 7), 1);
        c.due("put the first", x.item(0, 0, 7), 1);
        c.due("read the last", x.read(0, 59), 1);
        c.due("refused", x.tape(0, 0, 61), -2);
        c.due("so it stays", x.read(0, 59), 1);
        c.due("anew", x.tape(0, 3, 60), 1);
        c.due("all 0", x.read(0, 59), 0);
        c.due("the first, too", x.read(0, 0), 0);
        c.due("a row of none", x.tape(5, 1, 0), 1);
        c.due("no place there", x.item(5, 0, 0), -13);
        c.due("nothing, whatever n is", x.tape(0, -1, -99), 1);
        c.due("nothing is there", x.item(0, 0, 0), -11);
    }

    private static void item() {
        WitnessPays x = new WitnessPays();
        c.due("tape -1", x.item(-1, 0, 0), -1);
        c.due("tape 6", x.item(6, 0, 0), -1);
        c.due("nothing", x.item(0, 0, 0), -11);
        long v = 0x123456789ABCDEF0L;
        long[] due = {(byte) v, (short) v, (int) v, v, 1};
        for (int sort = 0; sort <= 4; sort++) {
            x.tape(sort, sort, 3);
            c.due("item of sort " + sort, x.item(sort, 2, v), 1);
            c.due("read of sort " + sort, x.read(sort, 2), due[sort]);
            c.due("the one ahead", x.read(sort, 1), 0);
            x.item(sort, 2, -1);
            c.due("-1 of sort " + sort, x.read(sort, 2), sort == 4 ? 1 : -1);
            x.item(sort, 2, 256);
            c.due("256 of sort " + sort, x.read(sort, 2), sort == 0 ? 0 : sort == 4 ? 1 : 256);
            x.item(sort, 2, 0);
            c.due("0 of sort " + sort, x.read(sort, 2), 0);
            c.due("place 3", x.item(sort, 3, v), -13);
            c.due("place -1", x.item(sort, -1, v), -13);
            c.due("far place", x.item(sort, Integer.MAX_VALUE, v), -13);
            c.due("far place", x.item(sort, Integer.MIN_VALUE, v), -13);
        }
        x.item(0, 0, 128);
        c.due("128 as a byte", x.read(0, 0), -128);
        x.item(1, 0, 32768);
        c.due("32768 as a short", x.read(1, 0), -32768);
        x.item(2, 0, 1L << 31);
        c.due("2 to the 31st as an int", x.read(2, 0), Integer.MIN_VALUE);
        x.item(3, 0, Long.MAX_VALUE);
        c.due("a long", x.read(3, 0), Long.MAX_VALUE);
        x.item(4, 0, 1L << 32);
        c.due("is not 0", x.read(4, 0), 1);
    }

    private static void read() {
        WitnessPays x = new WitnessPays();
        c.due("tape -1", x.read(-1, 0), NO);
        c.due("tape 6", x.read(6, 0), NO);
        c.due("nothing", x.read(0, 0), NO);
        x.tape(0, 2, 2);
        c.due("place 2", x.read(0, 2), NO);
        c.due("place -1", x.read(0, -1), NO);
        c.due("place 1", x.read(0, 1), 0);
        x.tape(0, 2, 1);
        c.due("place 1 is no more", x.read(0, 1), NO);
    }

    private static void shift() {
        WitnessPays x = new WitnessPays();
        c.due("tape 6", x.shift(6, 0, 0, 0, 0), -1);
        c.due("other 6", x.shift(0, 0, 6, 0, 0), -1);
        c.due("tape -1", x.shift(-1, 0, 0, 0, 0), -1);
        c.due("other -1", x.shift(0, 0, -1, 0, 0), -1);
        c.due("nothing in both", x.shift(0, 0, 1, 0, 0), -11);
        x.tape(0, 1, 5);
        c.due("nothing in the other", x.shift(0, 0, 1, 0, 0), -11);
        c.due("nothing in the one", x.shift(1, 0, 0, 0, 0), -11);
        x.tape(1, 2, 4);
        c.due("unlike sorts", x.shift(0, 0, 1, 0, 0), -12);
        c.due("CAST ahead of PLACE", x.shift(0, -1, 1, 0, 99), -12);
        x.tape(1, 1, 4);
        c.due("n -1", x.shift(0, 0, 1, 0, -1), -13);
        c.due("i -1", x.shift(0, -1, 1, 0, 1), -13);
        c.due("j -1", x.shift(0, 0, 1, -1, 1), -13);
        c.due("beyond the one's end", x.shift(0, 2, 1, 0, 4), -13);
        c.due("beyond the other's end", x.shift(0, 0, 1, 0, 5), -13);
        c.due("beyond the other's end", x.shift(0, 0, 1, 1, 4), -13);
        c.due("none at both ends", x.shift(0, 5, 1, 4, 0), 0);
        c.due("none beyond the end", x.shift(0, 6, 1, 0, 0), -13);
        c.due("none beyond the other's", x.shift(0, 0, 1, 5, 0), -13);
        c.due("very many", x.shift(0, 1, 1, 1, Integer.MAX_VALUE), -13);
        c.due("very far", x.shift(0, Integer.MAX_VALUE, 1, 1, Integer.MAX_VALUE), -13);
        for (int i = 0; i < 5; i++) {
            x.item(0, i, i + 1);
        }
        c.due("four over", x.shift(0, 1, 1, 0, 4), 4);
        dueRow(x, 1, 2, 3, 4, 5);
        dueRow(x, 0, 1, 2, 3, 4, 5);
        c.due("to the right in itself", x.shift(0, 0, 0, 1, 4), 4);
        dueRow(x, 0, 1, 1, 2, 3, 4);
        c.due("to the left in itself", x.shift(0, 1, 0, 0, 4), 4);
        dueRow(x, 0, 1, 2, 3, 4, 4);
        c.due("one", x.shift(1, 3, 0, 0, 1), 1);
        dueRow(x, 0, 5, 2, 3, 4, 4);
    }

    private static void dueRow(WitnessPays x, int tape, long... due) {
        for (int i = 0; i < due.length; i++) {
            c.due("read(" + tape + ", " + i + ")", x.read(tape, i), due[i]);
        }
    }
}
