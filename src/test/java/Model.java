import java.util.ArrayList;
import java.util.List;

/**
 * The document once more, told apart from the program: step by step, copying all before
 * anything is tried, and with no thought of speed. ModelTest holds the two against each other.
 */
public final class Model {
    private static final class Body implements Cloneable {
        int kind, v, place, purse = 100;
        boolean gone;
        int[] row = new int[4];

        Body copy() {
            Body b = new Body();
            b.kind = kind;
            b.v = v;
            b.place = place;
            b.purse = purse;
            b.gone = gone;
            b.row = row.clone();
            return b;
        }
    }

    private static final class World {
        List<Body> people = new ArrayList<>();
        boolean[] wall = new boolean[12];
        int day;
        String law = "";
        List<int[]> seen = new ArrayList<>();
        List<int[]> plan = new ArrayList<>();
        List<int[]> book = new ArrayList<>();

        World copy() {
            World w = new World();
            for (Body b : people) {
                w.people.add(b.copy());
            }
            w.wall = wall.clone();
            w.day = day;
            w.law = law;
            w.seen.addAll(seen);
            w.plan.addAll(plan);
            w.book.addAll(book);
            return w;
        }

        String[] clauses() {
            return law.isEmpty() ? new String[0] : law.split(";");
        }

        int fine() {
            int fine = 20;
            for (String clause : clauses()) {
                if (clause.startsWith("fine")) {
                    fine = Integer.parseInt(clause.split(" ")[1]);
                }
            }
            return fine;
        }

        int sum(int p) {
            int sum = 2;
            for (String clause : clauses()) {
                String[] part = clause.split(" ");
                if (part[0].equals("fine") || !either(part[2], p)) {
                    continue;
                }
                int n = Integer.parseInt(part[1]);
                sum += part[0].equals("far") ? n : -n;
            }
            return sum;
        }

        /** Splits at the outermost sign, so that no text is read from the left on. */
        boolean either(String e, int p) {
            int at = outermost(e, '|');
            if (at >= 0) {
                boolean left = either(e.substring(0, at), p);
                return either(e.substring(at + 1), p) || left;
            }
            at = outermost(e, '&');
            if (at >= 0) {
                boolean left = either(e.substring(0, at), p);
                return either(e.substring(at + 1), p) && left;
            }
            if (e.charAt(0) == '!') {
                return !either(e.substring(1), p);
            }
            if (e.charAt(0) == '(') {
                return either(e.substring(1, e.length() - 1), p);
            }
            Body b = people.get(p);
            int value = 0;
            switch (e.charAt(0)) {
                case 'p': value = p; break;
                case 'k': value = b.kind; break;
                case 'v': value = b.v; break;
                case 'a': value = b.place; break;
                case 'm': value = b.purse / 100; break;
                case 'd': value = day % 10; break;
                default: throw new IllegalStateException(e);
            }
            int n = Integer.parseInt(e.substring(2));
            return e.charAt(1) == '<' ? value < n : e.charAt(1) == '=' ? value == n : value > n;
        }

        static int outermost(String e, char sign) {
            int depth = 0;
            for (int i = e.length() - 1; i >= 0; i--) {
                char s = e.charAt(i);
                depth += s == ')' ? 1 : s == '(' ? -1 : 0;
                if (depth == 0 && s == sign) {
                    return i;
                }
            }
            return -1;
        }

        int reach(int p) {
            Body b = people.get(p);
            double sum = sum(p);
            double reach;
            switch (b.kind) {
                case 3: reach = sum + sum; break;
                case 4: reach = day % 2 == 0 ? sum : 0; break;
                case 5: reach = sum >= 0 ? Math.floor(sum / 2) : Math.ceil(sum / 2); break;
                case 6: reach = sum + sum + b.row[day % 4]; break;
                default: reach = sum;
            }
            return reach < 0 ? 0 : reach > 11 ? 11 : (int) reach;
        }

        boolean sees(int p, int place) {
            Body b = people.get(p);
            if (b.gone) {
                return false;
            }
            if (b.place == place) {
                return true;
            }
            int reach = reach(p);
            for (int n = 1, at = b.place; n <= reach && !wall[at]; n++) {
                at = at == 11 ? 0 : at + 1;
                if (at == place) {
                    return true;
                }
            }
            if (b.kind == 2 || b.kind == 5) {
                return false;
            }
            for (int n = 1, at = b.place; n <= reach; n++) {
                at = at == 0 ? 11 : at - 1;
                if (wall[at]) {
                    return false;
                }
                if (at == place) {
                    return true;
                }
            }
            return false;
        }

        List<Integer> seers(int place) {
            List<Integer> all = new ArrayList<>();
            for (int p = 0; p < people.size(); p++) {
                if (sees(p, place)) {
                    all.add(p);
                }
            }
            return all;
        }

        int[] pays(int place) {
            int[] pays = new int[people.size()];
            List<Integer> seers = seers(place);
            int left = fine();
            for (int i = seers.size() - 1; i >= 0; i--) {
                int share = i == 0 ? left : fine() / seers.size();
                left -= share;
                Body b = people.get(seers.get(i));
                int due = b.kind == 5 ? share / 2 : share;
                pays[seers.get(i)] = due > b.purse ? b.purse : due;
            }
            return pays;
        }

        int paid(int place) {
            int sum = 0;
            for (int n : pays(place)) {
                sum += n;
            }
            return sum;
        }

        int deed(int place) {
            int[] pays = pays(place);
            int sum = 0;
            for (int p = 0; p < pays.length; p++) {
                people.get(p).purse -= pays[p];
                sum += pays[p];
            }
            return sum;
        }

        void day() {
            for (Body b : people) {
                if (!b.gone && (b.kind == 1 || b.kind == 4)) {
                    for (int n = 0; n < b.v % 3; n++) {
                        b.place = b.place == 11 ? 0 : b.place + 1;
                    }
                }
            }
            day++;
        }

        World days(int n) {
            World w = copy();
            for (int i = 0; i < n; i++) {
                w.day();
            }
            return w;
        }

        int purses() {
            int sum = 0;
            for (Body b : people) {
                sum += b.purse;
            }
            return sum;
        }

        int hidden() {
            int many = 0;
            for (int place = 0; place < 12; place++) {
                many += seers(place).isEmpty() ? 1 : 0;
            }
            return many;
        }

        boolean agrees(int p) {
            for (int[] row : seen) {
                if (days(row[1]).sees(p, row[0]) != ((row[2] & 1 << p) != 0)) {
                    return false;
                }
            }
            return true;
        }
    }

    private World now = new World();
    private World image;
    private StringBuilder text = new StringBuilder();
    private int laws;
    private List<Integer> trace = new ArrayList<>();
    private final int[] sort = {-1, -1, -1, -1, -1, -1};
    private final long[][] tape = new long[6][];

    private boolean nobody(int person) {
        return person < 0 || person >= now.people.size();
    }

    private static boolean out(int n, int last) {
        return n < 0 || n > last;
    }

    private static int bits(List<Integer> all) {
        int bits = 0;
        for (int n : all) {
            bits |= 1 << n;
        }
        return bits;
    }

    public int one(int kind, int v, int place) {
        if (out(kind, 6) || out(place, 11)) return -1;
        if (out(v, 9)) return -2;
        if (now.people.size() == 6) return -4;
        Body b = new Body();
        b.kind = kind;
        b.v = v;
        b.place = place;
        now.people.add(b);
        return now.people.size() - 1;
    }

    public int of(int person, int what) {
        if (nobody(person) || out(what, 8)) return -1;
        Body b = now.people.get(person);
        if (what == 0) return b.kind;
        if (what == 1) return b.v;
        if (what == 2) return b.place;
        if (what == 3) return b.purse;
        if (what == 4) return b.gone ? 1 : 0;
        if (what == 5) return now.reach(person);
        if (what == 6) return sight(now, person);
        if (what == 7) {
            int best = 0;
            for (int place = 11; place >= 0; place--) {
                if (seenFrom(person, place) <= seenFrom(person, best)) best = place;
            }
            return best;
        }
        for (int place = 0; place < 12; place++) {
            if (now.seers(place).equals(List.of(person))) return place;
        }
        return -5;
    }

    private int seenFrom(int person, int place) {
        World w = now.copy();
        w.people.get(person).place = place;
        return Integer.bitCount(sight(w, person));
    }

    private static int sight(World w, int person) {
        int bits = 0;
        for (int place = 0; place < 12; place++) {
            bits += w.sees(person, place) ? 1 << place : 0;
        }
        return bits;
    }

    public int set(int person, int what, int n) {
        if (nobody(person) || out(what, 1)) return -1;
        if (out(n, what == 0 ? 11 : 9999)) return -2;
        Body b = now.people.get(person);
        int was = what == 0 ? b.place : b.purse;
        if (what == 0) b.place = n;
        if (what == 1) b.purse = n;
        return was;
    }

    public int leave(int person, boolean is) {
        if (nobody(person)) return -1;
        int was = now.people.get(person).gone ? 1 : 0;
        now.people.get(person).gone = is;
        return was;
    }

    private int wallBits() {
        int bits = 0;
        for (int i = 0; i < 12; i++) {
            bits += now.wall[i] ? 1 << i : 0;
        }
        return bits;
    }

    public int walls(int bits) {
        if (out(bits, 4095)) return -2;
        int was = wallBits();
        for (int i = 0; i < 12; i++) {
            now.wall[i] = (bits & 1 << i) != 0;
        }
        return was;
    }

    public int row(int person, int part, int n) {
        if (nobody(person) || out(part, 3)) return -1;
        if (out(n, 9)) return -2;
        Body b = now.people.get(person);
        if (b.kind != 6) return -3;
        int was = b.row[part];
        b.row[part] = n;
        return was;
    }

    public int feed(int sign) {
        if (out(sign, 127)) return -2;
        if (text.length() == 100) return -4;
        text.append((char) sign);
        return text.length();
    }

    public int statute() {
        if (laws == 6) return -4;
        String whole = text.toString();
        text = new StringBuilder();
        if (isLaw(whole)) {
            now.law = whole;
            return laws++;
        }
        int fault = 0;
        while (fault < whole.length() && begins(whole.substring(0, fault + 1))) {
            fault++;
        }
        return -10 - fault;
    }

    /** By patterns and by taking tests, brackets and signs away until nothing is left to take. */
    private static boolean isLaw(String s) {
        String[] clauses = s.split(";", -1);
        if (clauses.length > 10) return false;
        for (String clause : clauses) {
            if (clause.matches("fine [0-9][0-9]?")) continue;
            if (!clause.matches("(far|near) [0-9][0-9]? [^ ]+")) return false;
            if (!isExpression(clause.substring(clause.lastIndexOf(' ') + 1))) return false;
        }
        return true;
    }

    /** T0 is a thing with nothing nested in it, T1 with one deep, and so on. */
    private static boolean isExpression(String e) {
        String s = e;
        if (s.indexOf('T') >= 0) return false;
        s = s.replaceAll("[pkvamd][<=>][0-9][0-9]?(?![0-9])", "T0");
        for (int round = 0; round < 200; round++) {
            String before = s;
            for (int n = 0; n <= 3; n++) {
                s = s.replace("!T" + n, "T" + (n + 1));
                s = s.replace("(T" + n + ")", "T" + (n + 1));
            }
            for (int n = 0; n <= 4; n++) {
                for (int k = 0; k <= 4; k++) {
                    // A pair within brackets alone, with no ! ahead of it, which binds closer.
                    String most = "T" + Math.max(n, k);
                    s = s.replaceAll("(?<![!])T" + n + "[&|]T" + k + "(?=[&|)]|$)", most);
                }
            }
            if (s.equals(before)) break;
        }
        return s.matches("T[0-4]");
    }

    private static boolean begins(String s) {
        String[] rests = {"", "far 1 p=1", "ar 1 p=1", "r 1 p=1", " 1 p=1", "1 p=1", " p=1", "p=1", "=1", "1",
            "ear 1 p=1", "ine 1", "ne 1", "e 1", " 1"};
        for (String rest : rests) {
            for (String brackets : new String[] {"", ")", "))", ")))", "))))"}) {
                if (isLaw(s + rest + brackets)) return true;
            }
        }
        return false;
    }

    public int told(int what) {
        switch (what) {
            case 0: return now.day;
            case 1: return now.fine();
            case 2: return wallBits();
            case 3: return now.purses();
            case 4:
                for (int place = 0; place < 12; place++) {
                    if (now.seers(place).isEmpty()) return place;
                }
                return -5;
            case 5: return now.hidden();
            case 6: {
                int best = 0;
                for (int place = 0; place < 12; place++) {
                    if (now.seers(place).size() > now.seers(best).size()) best = place;
                }
                return best;
            }
            case 7: {
                int best = 0;
                for (int place = 0; place < 12; place++) {
                    if (now.paid(place) > now.paid(best)) best = place;
                }
                return best;
            }
            default: return -1;
        }
    }

    public int deed(int place) {
        return out(place, 11) ? -1 : now.deed(place);
    }

    public int pass(int n) {
        if (out(n, 60)) return -2;
        if (now.day + n > 9999) return -3;
        List<int[]> seen = now.seen;
        now = now.days(n);
        now.seen = seen;
        return now.day;
    }

    public int at(int place, int what) {
        if (out(place, 11) || out(what, 3)) return -1;
        if (what == 0) return bits(now.seers(place));
        if (what == 1) return now.paid(place);
        if (what == 2) {
            World w = now.copy();
            for (int n = 0; n <= 60; n++) {
                if (w.seers(place).isEmpty()) return n;
                w.day();
            }
            return -5;
        }
        int best = -5;
        for (int set = 4095; set >= 0; set--) {
            if (best >= 0 && Integer.bitCount(set) > Integer.bitCount(best)) continue;
            World w = now.copy();
            boolean more = true;
            for (int i = 0; i < 12; i++) {
                if ((set & 1 << i) != 0) {
                    more &= !w.wall[i];
                    w.wall[i] = true;
                }
            }
            if (more && w.seers(place).isEmpty()) best = set;
        }
        return best;
    }

    public int share(int person, int place) {
        return nobody(person) || out(place, 11) ? -1 : now.pays(place)[person];
    }

    public int see(int place, int n, int who) {
        if (place == -1) {
            now.seen.clear();
            return 0;
        }
        if (out(place, 11)) return -1;
        if (out(n, 20) || out(who, 63)) return -2;
        if (now.seen.size() == 5) return -4;
        now.seen.add(new int[] {place, n, who});
        return now.seen.size();
    }

    public int wrong() {
        for (int i = 0; i < now.seen.size(); i++) {
            int[] row = now.seen.get(i);
            if (bits(now.days(row[1]).seers(row[0])) != row[2]) return i;
        }
        return -5;
    }

    public int from(int person) {
        if (nobody(person)) return -1;
        int bits = 0;
        for (int place = 0; place < 12; place++) {
            World w = now.copy();
            w.people.get(person).place = place;
            bits += w.agrees(person) ? 1 << place : 0;
        }
        return bits;
    }

    public int can(int person, int what) {
        if (nobody(person) || out(what, 1)) return -1;
        List<Integer> all = new ArrayList<>();
        for (int v = 0; v <= 9; v++) {
            World w = now.copy();
            w.people.get(person).v = v;
            if (w.agrees(person)) all.add(v);
        }
        return what == 0 ? all.size() : all.isEmpty() ? -5 : all.get(0);
    }

    private static long fraction(int above, int below, int part) {
        for (int n = below; n > 1; n--) {
            if (above % n == 0 && below % n == 0) return fraction(above / n, below / n, part);
        }
        return part == 0 ? above : below;
    }

    public long odds(int place, int part) {
        if (out(place, 11) || out(part, 1) || now.people.isEmpty()) return Long.MIN_VALUE;
        int good = 0;
        for (int p = 0; p < now.people.size(); p++) {
            World w = now.copy();
            w.people.get(p).gone = true;
            good += w.seers(place).isEmpty() ? 1 : 0;
        }
        return fraction(good, now.people.size(), part);
    }

    public long mean(int part) {
        if (out(part, 1)) return Long.MIN_VALUE;
        int sum = 0;
        for (int place = 0; place < 12; place++) {
            sum += now.paid(place);
        }
        return fraction(sum, 12, part);
    }

    public int plan(int what, int n) {
        if (what == -1) {
            now.plan.clear();
            return 0;
        }
        if (out(what, 3) || (what == 1 || what == 2) && out(n, 11) || what == 3 && nobody(n)) return -1;
        if (now.plan.size() == 10) return -4;
        now.plan.add(new int[] {what, n});
        return now.plan.size();
    }

    public int ends(int what) {
        if (out(what, 1)) return -1;
        World w = now.copy();
        for (int[] row : now.plan) {
            if (row[0] == 0) w.day();
            if (row[0] == 1) w.deed(row[1]);
            if (row[0] == 2) w.wall[row[1]] = !w.wall[row[1]];
            if (row[0] == 3) w.people.get(row[1]).gone = true;
        }
        return what == 0 ? w.purses() : w.hidden();
    }

    public int book(int person, int purse) {
        if (person == -1) {
            now.book.clear();
            return 0;
        }
        if (nobody(person)) return -1;
        if (out(purse, 9999)) return -2;
        if (now.book.size() == 8) return -4;
        now.book.add(new int[] {person, purse});
        return now.book.size();
    }

    public int looked() {
        for (int i = 0; i < now.book.size(); i++) {
            if (now.people.get(now.book.get(i)[0]).purse != now.book.get(i)[1]) return i;
        }
        return -5;
    }

    public int judge(int t, int i) {
        if (out(t, 5)) return -1;
        if (sort[t] == -1) return 100;
        if (sort[t] != 0) return -12;
        if (i < 0) return 100;
        for (int place = 0; place < 12; place++) {
            long at = (long) i + place;
            if (at >= tape[t].length) return 100 + place;
            if (tape[t][(int) at] != (now.seers(place).isEmpty() ? 0 : 1)) return place;
        }
        return -5;
    }

    public int image() {
        image = now.copy();
        return now.people.size();
    }

    public int undo() {
        if (image == null) return -3;
        now = image.copy();
        return now.people.size();
    }

    /** The bodies as Java itself would find them. */
    private class One {
        int i, v;

        int ran(int body) {
            trace.add(body);
            return 0;
        }

        int looks(int x) { return ran(10) + x + i; }
        int swears(int x) { return ran(11) + looks(x) - v; }
        int tells(int x) { return ran(12) + swears(x) * 2; }
    }

    private class Walker extends One {
        @Override int swears(int x) { ran(20); return super.swears(x) ^ 6; }
    }

    private class Hand extends One {
        @Override int looks(int x) { ran(30); return super.looks(x * 3); }
    }

    private class Mirror extends One {
        @Override int tells(int x) { ran(40); return super.tells(x) + swears(1); }
    }

    private class Thief extends Walker {
        @Override int looks(int x) { ran(50); return -super.looks(x); }
        @Override int swears(int x) { ran(51); return super.swears(x + 1); }
    }

    private class Blind extends Hand {
        @Override int tells(int x) { ran(60); return super.tells(x - i); }
    }

    private class Told extends Mirror {
        @Override int swears(int x) { ran(70); return super.swears(x) + super.looks(2); }
        @Override int looks(int x) { ran(71); return super.looks(x) ^ v; }
    }

    private One made(int kind) {
        switch (kind) {
            case 1: return new Walker();
            case 2: return new Hand();
            case 3: return new Mirror();
            case 4: return new Thief();
            case 5: return new Blind();
            case 6: return new Told();
            default: return new One();
        }
    }

    public int act(int person, int act, int x) {
        trace.clear();
        if (nobody(person) || out(act, 2)) return 0;
        One o = made(now.people.get(person).kind);
        o.i = person;
        o.v = now.people.get(person).v;
        return act == 0 ? o.looks(x) : act == 1 ? o.swears(x) : o.tells(x);
    }

    public int trace(int i) {
        return i < 0 || i >= 20 || i >= trace.size() ? -1 : trace.get(i);
    }

    public int taken(int person, int k) {
        if (out(k, 6)) return -2;
        if (nobody(person)) return -11;
        int kind = now.people.get(person).kind;
        return made(k).getClass().isInstance(made(kind)) ? kind : -12;
    }

    public int count(int what) {
        int[] all = {now.people.size(), laws, now.seen.size(), now.plan.size(), now.book.size(), text.length(), trace.size()};
        return out(what, 6) ? -2 : all[what];
    }

    public int tape(int t, int s, int n) {
        if (out(t, 5)) return -1;
        if (s == -1) {
            sort[t] = -1;
            return 1;
        }
        if (out(s, 4) || n > 60) return -2;
        if (n < 0) return -14;
        sort[t] = s;
        tape[t] = new long[n];
        return 1;
    }

    public int item(int t, int i, long v) {
        if (out(t, 5)) return -1;
        if (sort[t] == -1) return -11;
        if (out(i, tape[t].length - 1)) return -13;
        int[] width = {8, 16, 32, 64};
        tape[t][i] = sort[t] == 4 ? (v != 0 ? 1 : 0) : v << 64 - width[sort[t]] >> 64 - width[sort[t]];
        return 1;
    }

    public long read(int t, int i) {
        return out(t, 5) || sort[t] == -1 || out(i, tape[t].length - 1) ? Long.MIN_VALUE : tape[t][i];
    }

    public int shift(int t, int i, int other, int j, int n) {
        if (out(t, 5) || out(other, 5)) return -1;
        if (sort[t] == -1 || sort[other] == -1) return -11;
        if (sort[t] != sort[other]) return -12;
        if (n < 0 || i < 0 || j < 0 || (long) i + n > tape[t].length || (long) j + n > tape[other].length) return -13;
        long[] before = tape[t].clone();
        for (int k = 0; k < n; k++) {
            tape[other][j + k] = before[i + k];
        }
        return n;
    }
}
