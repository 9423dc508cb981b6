import java.util.function.Function;
import java.util.function.Supplier;
import java.util.function.ToLongFunction;

/**
 * Every call that is refused, and every one that only asks, each on streets of its own: it
 * answers as told, and then all is as it is on a street where it was not called.
 */
public final class RefusalsTest {
    private static final int NONE = -1, BAD = -2, STATE = -3, FULL = -4;
    private static final int NOTHING = -11, CAST = -12, PLACE = -13, SIZE = -14;
    private static final Check c = new Check();

    private static Supplier<WitnessPays> street;
    private static String streetName;

    public static void main(String[] args) {
        on("a new street", WitnessPays::new);
        for (int person : beyond(0, -1)) {
            noSuchOne(person);
        }
        ofEmpty();
        asked();
        on("some street", Streets::some);
        for (int person : beyond(0, 2)) {
            noSuchOne(person);
        }
        peopleAndLaws();
        deedsAndDays();
        seenAndOdds();
        plansAndBooks();
        judging();
        tapes();
        shift();
        asked();
        on("a full street", Streets::full);
        for (int person : beyond(0, 5)) {
            noSuchOne(person);
        }
        full();
        asked();
        lateDays();
        c.end("RefusalsTest");
    }

    private static void on(String name, Supplier<WitnessPays> made) {
        streetName = name;
        street = made;
    }

    /** Numbers out of bounds: next to them, and the farthest. */
    private static int[] beyond(int least, int most) {
        return new int[] {Integer.MIN_VALUE, least - 1, most + 1, Integer.MAX_VALUE};
    }

    /** Numbers beyond -1, which is told apart, and beyond the most. */
    private static int[] beyondAndNotMinusOne(int most) {
        return new int[] {Integer.MIN_VALUE, -2, most + 1, Integer.MAX_VALUE};
    }

    private static void refused(String call, ToLongFunction<WitnessPays> made, long due) {
        c.due(call + " on " + streetName, made.applyAsLong(street.get()), due);
        changesNothing(call, made);
    }

    private static void changesNothing(String call, ToLongFunction<WitnessPays> made) {
        same("the street", call, made, Streets::told);
        same("the tapes", call, made, Streets::tapesTold);
        same("what is tried out", call, made, Streets::triedOut);
        same("the image", call, made, Streets::imageTold);
    }

    private static void same(String what, String call, ToLongFunction<WitnessPays> made, Function<WitnessPays, String> told) {
        WitnessPays x = street.get();
        made.applyAsLong(x);
        c.holds(what + " behind " + call + " on " + streetName, told.apply(x).equals(told.apply(street.get())));
    }

    private static void noSuchOne(int p) {
        refused("of(" + p + ", 0)", x -> x.of(p, 0), NONE);
        refused("set(" + p + ", 0, 0)", x -> x.set(p, 0, 0), NONE);
        refused("set(" + p + ", 1, -1): NONE ahead of BAD", x -> x.set(p, 1, -1), NONE);
        refused("leave(" + p + ", true)", x -> x.leave(p, true), NONE);
        refused("leave(" + p + ", false)", x -> x.leave(p, false), NONE);
        refused("row(" + p + ", 0, 0)", x -> x.row(p, 0, 0), NONE);
        refused("row(" + p + ", 0, 10): NONE ahead of BAD", x -> x.row(p, 0, 10), NONE);
        refused("share(" + p + ", 0)", x -> x.share(p, 0), NONE);
        refused("from(" + p + ")", x -> x.from(p), NONE);
        refused("can(" + p + ", 0)", x -> x.can(p, 0), NONE);
        refused("plan(3, " + p + ")", x -> x.plan(3, p), NONE);
        if (p != -1) {
            refused("book(" + p + ", 0)", x -> x.book(p, 0), NONE);
            refused("book(" + p + ", -1): NONE ahead of BAD", x -> x.book(p, -1), NONE);
        }
        refused("taken(" + p + ", 0)", x -> x.taken(p, 0), NOTHING);
        refused("taken(" + p + ", 7): BAD ahead of NOTHING", x -> x.taken(p, 7), BAD);
    }

    private static void ofEmpty() {
        for (int place = 0; place < 12; place++) {
            int at = place;
            refused("odds(" + at + ", 0)", x -> x.odds(at, 0), WitnessPays.NO);
            refused("odds(" + at + ", 1)", x -> x.odds(at, 1), WitnessPays.NO);
        }
        refused("undo(), no image", x -> x.undo(), STATE);
        refused("trace(0), no act", x -> x.trace(0), NONE);
        for (int tape = 0; tape < 6; tape++) {
            int t = tape;
            refused("item(" + t + ", 0, 0)", x -> x.item(t, 0, 0), NOTHING);
            refused("read(" + t + ", 0)", x -> x.read(t, 0), WitnessPays.NO);
            refused("shift(" + t + ", 0, " + t + ", 0, 0)", x -> x.shift(t, 0, t, 0, 0), NOTHING);
            refused("judge(" + t + ", 0)", x -> x.judge(t, 0), 100);
        }
    }

    private static void peopleAndLaws() {
        for (int n : beyond(0, 6)) {
            refused("one(" + n + ", 0, 0)", x -> x.one(n, 0, 0), NONE);
            refused("one(" + n + ", -1, 0): NONE ahead of BAD", x -> x.one(n, -1, 0), NONE);
        }
        for (int n : beyond(0, 11)) {
            refused("one(0, 0, " + n + ")", x -> x.one(0, 0, n), NONE);
            refused("one(0, 10, " + n + "): NONE ahead of BAD", x -> x.one(0, 10, n), NONE);
            refused("set(0, 0, " + n + ")", x -> x.set(0, 0, n), BAD);
        }
        for (int n : beyond(0, 9)) {
            refused("one(0, " + n + ", 0)", x -> x.one(0, n, 0), BAD);
            refused("row(0, 0, " + n + ")", x -> x.row(0, 0, n), BAD);
            refused("row(1, 0, " + n + "): BAD ahead of STATE", x -> x.row(1, 0, n), BAD);
        }
        for (int n : beyond(0, 8)) {
            refused("of(0, " + n + ")", x -> x.of(0, n), NONE);
        }
        for (int n : beyond(0, 1)) {
            refused("set(0, " + n + ", 0)", x -> x.set(0, n, 0), NONE);
            refused("set(0, " + n + ", -1): NONE ahead of BAD", x -> x.set(0, n, -1), NONE);
        }
        for (int n : beyond(0, 9999)) {
            refused("set(0, 1, " + n + ")", x -> x.set(0, 1, n), BAD);
        }
        for (int n : beyond(0, 4095)) {
            refused("walls(" + n + ")", x -> x.walls(n), BAD);
        }
        for (int n : beyond(0, 3)) {
            refused("row(0, " + n + ", 0)", x -> x.row(0, n, 0), NONE);
            refused("row(0, " + n + ", -1): NONE ahead of BAD", x -> x.row(0, n, -1), NONE);
            refused("row(1, " + n + ", 0): NONE ahead of STATE", x -> x.row(1, n, 0), NONE);
        }
        refused("row(1, 0, 0) of a THIEF", x -> x.row(1, 0, 0), STATE);
        refused("row(2, 3, 9) of a BLIND one", x -> x.row(2, 3, 9), STATE);
        for (int n : beyond(0, 127)) {
            refused("feed(" + n + ")", x -> x.feed(n), BAD);
        }
        for (int n : beyond(0, 7)) {
            refused("told(" + n + ")", x -> x.told(n), NONE);
        }
    }

    private static void deedsAndDays() {
        for (int n : beyond(0, 11)) {
            refused("deed(" + n + ")", x -> x.deed(n), NONE);
            refused("at(" + n + ", 0)", x -> x.at(n, 0), NONE);
            refused("share(0, " + n + ")", x -> x.share(0, n), NONE);
        }
        for (int n : beyond(0, 60)) {
            refused("pass(" + n + ")", x -> x.pass(n), BAD);
        }
        for (int n : beyond(0, 3)) {
            refused("at(0, " + n + ")", x -> x.at(0, n), NONE);
        }
    }

    private static void seenAndOdds() {
        for (int n : beyondAndNotMinusOne(11)) {
            refused("see(" + n + ", 0, 0)", x -> x.see(n, 0, 0), NONE);
            refused("see(" + n + ", -1, 64): NONE ahead of BAD", x -> x.see(n, -1, 64), NONE);
        }
        for (int n : beyond(0, 20)) {
            refused("see(0, " + n + ", 0)", x -> x.see(0, n, 0), BAD);
        }
        for (int n : beyond(0, 63)) {
            refused("see(0, 0, " + n + ")", x -> x.see(0, 0, n), BAD);
        }
        for (int n : beyond(0, 1)) {
            refused("can(0, " + n + ")", x -> x.can(0, n), NONE);
            refused("odds(0, " + n + ")", x -> x.odds(0, n), WitnessPays.NO);
            refused("mean(" + n + ")", x -> x.mean(n), WitnessPays.NO);
        }
        for (int n : beyond(0, 11)) {
            refused("odds(" + n + ", 0)", x -> x.odds(n, 0), WitnessPays.NO);
        }
    }

    private static void plansAndBooks() {
        for (int n : beyondAndNotMinusOne(3)) {
            refused("plan(" + n + ", 0)", x -> x.plan(n, 0), NONE);
        }
        for (int n : beyond(0, 11)) {
            refused("plan(1, " + n + ")", x -> x.plan(1, n), NONE);
            refused("plan(2, " + n + ")", x -> x.plan(2, n), NONE);
        }
        for (int n : beyond(0, 1)) {
            refused("ends(" + n + ")", x -> x.ends(n), NONE);
        }
        for (int n : beyond(0, 9999)) {
            refused("book(0, " + n + ")", x -> x.book(0, n), BAD);
        }
    }

    private static void judging() {
        for (int n : beyond(0, 5)) {
            refused("judge(" + n + ", 0)", x -> x.judge(n, 0), NONE);
        }
        for (int sort = 1; sort <= 4; sort++) {
            int t = sort;
            refused("judge(" + t + ", 0), no bytes", x -> x.judge(t, 0), CAST);
            refused("judge(" + t + ", -1): CAST, whatever the place", x -> x.judge(t, -1), CAST);
        }
        refused("trace(-1)", x -> x.trace(-1), NONE);
        refused("trace(12), as many ran", x -> x.trace(12), NONE);
        refused("trace(20)", x -> x.trace(20), NONE);
        for (int n : beyond(0, 19)) {
            refused("trace(" + n + ")", x -> x.trace(n), NONE);
        }
        for (int n : beyond(0, 6)) {
            refused("taken(0, " + n + ")", x -> x.taken(0, n), BAD);
            refused("count(" + n + ")", x -> x.count(n), BAD);
        }
        refused("taken(0, 4), a TOLD one", x -> x.taken(0, 4), CAST);
        refused("taken(1, 3), a THIEF", x -> x.taken(1, 3), CAST);
        refused("taken(2, 6), a BLIND one", x -> x.taken(2, 6), CAST);
    }

    private static void tapes() {
        for (int n : beyond(0, 5)) {
            refused("tape(" + n + ", 0, 0)", x -> x.tape(n, 0, 0), NONE);
            refused("tape(" + n + ", -1, 0)", x -> x.tape(n, -1, 0), NONE);
            refused("tape(" + n + ", 5, 61): NONE ahead of BAD", x -> x.tape(n, 5, 61), NONE);
            refused("tape(" + n + ", 0, -1): NONE ahead of SIZE", x -> x.tape(n, 0, -1), NONE);
            refused("item(" + n + ", 0, 0)", x -> x.item(n, 0, 0), NONE);
            refused("item(" + n + ", -1, 0): NONE ahead of PLACE", x -> x.item(n, -1, 0), NONE);
            refused("read(" + n + ", 0)", x -> x.read(n, 0), WitnessPays.NO);
        }
        for (int n : beyondAndNotMinusOne(4)) {
            refused("tape(0, " + n + ", 0)", x -> x.tape(0, n, 0), BAD);
            refused("tape(0, " + n + ", -1): BAD ahead of SIZE", x -> x.tape(0, n, -1), BAD);
        }
        refused("tape(0, 0, 61)", x -> x.tape(0, 0, 61), BAD);
        refused("tape(0, 0, very many)", x -> x.tape(0, 0, Integer.MAX_VALUE), BAD);
        refused("tape(0, 0, -1)", x -> x.tape(0, 0, -1), SIZE);
        refused("tape(0, 4, very few)", x -> x.tape(0, 4, Integer.MIN_VALUE), SIZE);
        refused("item(5, 0, 0)", x -> x.item(5, 0, 0), NOTHING);
        refused("item(5, -1, 0): NOTHING ahead of PLACE", x -> x.item(5, -1, 0), NOTHING);
        refused("read(5, 0)", x -> x.read(5, 0), WitnessPays.NO);
        for (int sort = 0; sort <= 4; sort++) {
            int t = sort;
            for (int n : beyond(0, t == 0 ? 12 : 1 + t)) {
                refused("item(" + t + ", " + n + ", 1)", x -> x.item(t, n, 1), PLACE);
                refused("read(" + t + ", " + n + ")", x -> x.read(t, n), WitnessPays.NO);
            }
        }
    }

    /** TAPE 0 holds 13 bytes, 1 three shorts, 2 four ints; 5 holds nothing. */
    private static void shift() {
        for (int n : beyond(0, 5)) {
            refused("shift(" + n + ", 0, 0, 0, 1)", x -> x.shift(n, 0, 0, 0, 1), NONE);
            refused("shift(0, 0, " + n + ", 0, 1)", x -> x.shift(0, 0, n, 0, 1), NONE);
            refused("shift(5, 0, " + n + ", 0, 1): NONE ahead of NOTHING", x -> x.shift(5, 0, n, 0, 1), NONE);
        }
        refused("shift(5, 0, 0, 0, 1)", x -> x.shift(5, 0, 0, 0, 1), NOTHING);
        refused("shift(0, 0, 5, 0, 1)", x -> x.shift(0, 0, 5, 0, 1), NOTHING);
        refused("shift(5, 0, 5, 0, 0)", x -> x.shift(5, 0, 5, 0, 0), NOTHING);
        refused("shift(5, -1, 0, 0, 1): NOTHING ahead of PLACE", x -> x.shift(5, -1, 0, 0, 1), NOTHING);
        refused("shift(0, 0, 1, 0, 0)", x -> x.shift(0, 0, 1, 0, 0), CAST);
        refused("shift(1, -1, 2, 0, 1): CAST ahead of PLACE", x -> x.shift(1, -1, 2, 0, 1), CAST);
        for (int n : beyond(0, 3)) {
            refused("shift(1, 0, 1, 0, " + n + ")", x -> x.shift(1, 0, 1, 0, n), PLACE);
            refused("shift(1, " + n + ", 1, 0, 0)", x -> x.shift(1, n, 1, 0, 0), PLACE);
            refused("shift(1, 0, 1, " + n + ", 0)", x -> x.shift(1, 0, 1, n, 0), PLACE);
            refused("shift(1, " + n + ", 1, " + n + ", " + n + ")", x -> x.shift(1, n, 1, n, n), PLACE);
        }
        refused("shift(1, 1, 1, 0, 3)", x -> x.shift(1, 1, 1, 0, 3), PLACE);
        refused("shift(1, 0, 1, 1, 3)", x -> x.shift(1, 0, 1, 1, 3), PLACE);
        refused("shift(1, 3, 1, 0, 1)", x -> x.shift(1, 3, 1, 0, 1), PLACE);
        refused("shift(1, 0, 1, 3, 1)", x -> x.shift(1, 0, 1, 3, 1), PLACE);
        refused("shift(1, 1, 1, 1, very many)", x -> x.shift(1, 1, 1, 1, Integer.MAX_VALUE), PLACE);
    }

    private static void full() {
        refused("one(0, 0, 0)", x -> x.one(0, 0, 0), FULL);
        refused("one(7, 0, 0): NONE ahead of FULL", x -> x.one(7, 0, 0), NONE);
        refused("one(0, 0, 12): NONE ahead of FULL", x -> x.one(0, 0, 12), NONE);
        refused("one(0, 10, 0): BAD ahead of FULL", x -> x.one(0, 10, 0), BAD);
        refused("feed(102)", x -> x.feed(102), FULL);
        refused("feed(128): BAD ahead of FULL", x -> x.feed(128), BAD);
        refused("statute(), THE TEXT stays", x -> x.statute(), FULL);
        refused("see(0, 0, 0)", x -> x.see(0, 0, 0), FULL);
        refused("see(12, 0, 0): NONE ahead of FULL", x -> x.see(12, 0, 0), NONE);
        refused("see(0, 21, 0): BAD ahead of FULL", x -> x.see(0, 21, 0), BAD);
        refused("see(0, 0, 64): BAD ahead of FULL", x -> x.see(0, 0, 64), BAD);
        refused("plan(0, 0)", x -> x.plan(0, 0), FULL);
        refused("plan(4, 0): NONE ahead of FULL", x -> x.plan(4, 0), NONE);
        refused("plan(1, 12): NONE ahead of FULL", x -> x.plan(1, 12), NONE);
        refused("plan(3, 6): NONE ahead of FULL", x -> x.plan(3, 6), NONE);
        refused("book(0, 0)", x -> x.book(0, 0), FULL);
        refused("book(6, 0): NONE ahead of FULL", x -> x.book(6, 0), NONE);
        refused("book(0, 10000): BAD ahead of FULL", x -> x.book(0, 10000), BAD);
    }

    /** DAYS cannot go beyond 9999, and all that is only asked does. */
    private static void lateDays() {
        on("a street on the last DAY", () -> {
            WitnessPays x = new WitnessPays();
            x.one(4, 1, 3);
            x.one(6, 2, 8);
            x.row(1, 0, 4);
            x.see(4, 20, 1);
            x.plan(0, 0);
            x.image();
            for (int i = 0; i < 166; i++) {
                x.pass(60);
            }
            x.pass(39);
            return x;
        });
        c.due("the last DAY", street.get().told(0), 9999);
        refused("pass(1)", x -> x.pass(1), STATE);
        refused("pass(60)", x -> x.pass(60), STATE);
        refused("pass(61): BAD ahead of STATE", x -> x.pass(61), BAD);
        changesNothing("pass(0)", x -> x.pass(0));
        changesNothing("at(4, 2)", x -> x.at(4, 2));
        changesNothing("wrong()", x -> x.wrong());
        changesNothing("from(0)", x -> x.from(0));
        changesNothing("can(0, 0)", x -> x.can(0, 0));
        changesNothing("ends(0)", x -> x.ends(0));
    }

    private static void asked() {
        for (int n = 0; n < 6; n++) {
            int i = n;
            for (int what = 0; what <= 8; what++) {
                int w = what;
                changesNothing("of(" + i + ", " + w + ")", x -> x.of(i, w));
            }
            changesNothing("share(" + i + ", 3)", x -> x.share(i, 3));
            changesNothing("from(" + i + ")", x -> x.from(i));
            changesNothing("can(" + i + ", 0)", x -> x.can(i, 0));
            changesNothing("can(" + i + ", 1)", x -> x.can(i, 1));
            changesNothing("taken(" + i + ", 0)", x -> x.taken(i, 0));
            changesNothing("judge(" + i + ", 0)", x -> x.judge(i, 0));
            changesNothing("read(" + i + ", 1)", x -> x.read(i, 1));
        }
        for (int n = 0; n < 12; n++) {
            int place = n;
            for (int what = 0; what <= 3; what++) {
                int w = what;
                changesNothing("at(" + place + ", " + w + ")", x -> x.at(place, w));
            }
            changesNothing("odds(" + place + ", 0)", x -> x.odds(place, 0));
            changesNothing("told(" + place + ")", x -> x.told(place));
            changesNothing("count(" + place + ")", x -> x.count(place));
            changesNothing("trace(" + place + ")", x -> x.trace(place));
        }
        changesNothing("wrong()", x -> x.wrong());
        changesNothing("mean(0)", x -> x.mean(0));
        changesNothing("ends(0)", x -> x.ends(0));
        changesNothing("ends(1)", x -> x.ends(1));
        changesNothing("looked()", x -> x.looked());
    }
}
