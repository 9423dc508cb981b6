/** Streets that several tests begin with, and all that can be told of one, within the 512 calls for which an object answers. */
final class Streets {
    private Streets() {
    }

    /** Three PEOPLE of six, one of them GONE, something of everything, and an IMAGE of another day. */
    static WitnessPays some() {
        WitnessPays x = new WitnessPays();
        x.one(6, 1, 2);
        x.one(4, 5, 7);
        x.row(0, 1, 4);
        x.set(1, 1, 130);
        x.walls(0b000000100001);
        x.see(3, 4, 1);
        x.plan(1, 2);
        x.book(0, 100);
        Check.enact(x, "fine 9;far 2 p=0");
        x.image();
        x.one(5, 3, 9);
        x.leave(2, true);
        x.row(0, 3, 2);
        x.pass(3);
        x.walls(0b100000010000);
        Check.enact(x, "fine 31;far 1 d<5&!k=4;near 2 a>9|m<1");
        x.see(7, 0, 2);
        x.plan(0, 0);
        x.plan(2, 5);
        x.plan(3, 1);
        x.book(1, 7);
        x.act(0, 2, 5);
        tapes(x);
        x.feed('f');
        return x;
    }

    /** As many of everything as there may be. */
    static WitnessPays full() {
        WitnessPays x = new WitnessPays();
        for (int i = 0; i < 6; i++) {
            x.one(i + 1, i + 3, 2 * i);
            Check.enact(x, i == 5 ? "fine 77;near 1 m<1" : "fine 1");
        }
        x.row(5, 0, 1);
        for (int i = 0; i < 5; i++) {
            x.see(i, 2 * i, 1 << i);
        }
        for (int i = 0; i < 10; i++) {
            x.plan(i % 4, i % 6);
        }
        for (int i = 0; i < 8; i++) {
            x.book(i % 6, i < 6 ? 100 : 7);
        }
        x.image();
        x.set(3, 1, 44);
        x.walls(1 << 3);
        x.act(5, 2, 1);
        tapes(x);
        for (int i = 0; i < 100; i++) {
            x.feed(i);
        }
        return x;
    }

    /** One of each sort, with numbers in them; 5 holds nothing. */
    private static void tapes(WitnessPays x) {
        for (int sort = 0; sort <= 4; sort++) {
            x.tape(sort, sort, sort == 0 ? 13 : 2 + sort);
            x.item(sort, 1, -77 * sort - 1);
        }
    }

    /** How all is, as far as asking tells it; about 330 calls. */
    static String told(WitnessPays x) {
        StringBuilder s = new StringBuilder();
        for (int what = 0; what <= 8; what++) {
            add(s, x.told(what), x.count(what), x.trace(what));
            for (int i = 0; i < 6; i++) {
                add(s, x.of(i, what));
            }
        }
        for (int place = 0; place < 12; place++) {
            add(s, x.at(place, 0), x.at(place, 1), x.at(place, 2), x.at(place, 3));
            for (int i = 0; i < 6; i++) {
                add(s, x.share(i, place));
            }
        }
        for (int i = 0; i < 6; i++) {
            add(s, x.from(i), x.can(i, 0), x.can(i, 1), x.odds(i, 1), x.judge(i, 0));
        }
        return add(s, x.wrong(), x.looked(), x.mean(0), x.mean(1), x.ends(0), x.ends(1)).toString();
    }

    /** What the TAPES hold, and THE TRACE to its end. */
    static String tapesTold(WitnessPays x) {
        StringBuilder s = new StringBuilder();
        for (int i = 0; i <= 20; i++) {
            add(s, x.trace(i));
            for (int tape = 0; tape < 6; tape++) {
                add(s, x.read(tape, i));
            }
        }
        return s.toString();
    }

    /** What shows by changes alone: ROWS, then THE TEXT, which is read to its end as a law. */
    static String triedOut(WitnessPays x) {
        StringBuilder s = new StringBuilder();
        for (int i = 0; i < 6; i++) {
            for (int part = 0; part < 4; part++) {
                add(s, x.row(i, part, 0));
            }
        }
        add(s, Check.enact(x, "ine 55"), x.told(1), x.count(1), x.count(5));
        return add(s, x.feed('f')).toString();
    }

    /** THE IMAGE. */
    static String imageTold(WitnessPays x) {
        int people = x.undo();
        return people + " " + told(x);
    }

    private static StringBuilder add(StringBuilder s, long... answers) {
        for (long answer : answers) {
            s.append(answer).append(' ');
        }
        return s;
    }
}
