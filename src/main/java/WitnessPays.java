/**
 * A street that is a ring of places, with walls between some, and people on it who pay
 * for what they see. The document ../shared/DOC.md says what every call answers.
 */
public final class WitnessPays {
    public static final int NONE = -1, BAD = -2, STATE = -3, FULL = -4;
    public static final long NO = Long.MIN_VALUE;

    private static final int NOWHERE = -5;
    private static final int FAULT_BASE = -10;
    private static final int NOTHING = -11, CAST = -12, NO_PLACE = -13, SIZE = -14;

    private static final int PLACES = 12;
    private static final int ALL_PLACES = (1 << PLACES) - 1;
    private static final int MOST_PEOPLE = 6;
    private static final int ALL_PEOPLE = (1 << MOST_PEOPLE) - 1;
    private static final int MOST_LAWS = 6;
    private static final int MOST_CLAUSES = 10;
    private static final int MOST_SIGNS = 100;
    private static final int MOST_NESTED = 4;
    private static final int LAST_SIGN = 127;
    private static final int LAST_V = 9;
    private static final int FIRST_PURSE = 100, LAST_PURSE = 9999;
    private static final int LAST_DAY = 9999, MOST_DAYS = 60, MOST_SEEN_DAYS = 20;
    private static final int ROW_PARTS = 4, LAST_ROW = 9;
    private static final int MOST_SEEN = 5, MOST_PLAN = 10, MOST_BOOK = 8;
    private static final int MOST_TRACE = 20;
    private static final int TAPES = 6, MOST_ITEMS = 60;

    private static final int ONE = 0, WALKER = 1, HAND = 2, MIRROR = 3, THIEF = 4, BLIND = 5, TOLD = 6;
    private static final int[] KIND_ABOVE = {-1, 0, 0, 0, 1, 2, 3};

    private static final int FAR = 0, NEAR = 1, FINE = 2;
    private static final int BASE_SUM = 2, BASE_FINE = 20, MOST_REACH = 11;
    private static final String LETTERS = "pkvamd", RELATIONS = "<=>";
    /** Where they stand among the RELATIONS; the third is above. */
    private static final int BELOW = 0, EQUAL = 1;
    /** A TEST is kept as one number, 0 or above, so that these can stand among TESTS. */
    private static final int AND = -1, OR = -2, NOT = -3;
    private static final int RELATION_STEP = 100, LETTER_STEP = 300;

    private static final int PLAN_DAY = 0, PLAN_DEED = 1, PLAN_WALL = 2, PLAN_GONE = 3;
    private static final int LOOKS = 0, SWEARS = 1, TELLS = 2;
    private static final int EMPTY = -1, BYTES = 0, SHORTS = 1, INTS = 2, LONGS = 3, BOOLEANS = 4;
    private static final int JUDGED_SHORT = 100;

    private final Scene now;
    private final Scene kept;
    private boolean hasKept;
    private final LawText text = new LawText();
    private int laws;
    private final WhatIf whatIf;
    private final Actor actor = new Actor();
    private final Tape[] tapes = new Tape[TAPES];

    public WitnessPays() {
        Law noLaw = new Law();
        now = new Scene(noLaw);
        kept = new Scene(noLaw);
        whatIf = new WhatIf(noLaw);
        for (int i = 0; i < TAPES; i++) {
            tapes[i] = new Tape();
        }
    }

    // ---- people, laws, walls

    public int one(int kind, int v, int place) {
        if (!isWithin(kind, TOLD) || !isPlace(place)) {
            return NONE;
        }
        if (!isWithin(v, LAST_V)) {
            return BAD;
        }
        return now.street.welcome(kind, v, place);
    }

    public int of(int person, int what) {
        Person one = now.street.person(person);
        if (one == null) {
            return NONE;
        }
        switch (what) {
            case 0: return one.kind;
            case 1: return one.v;
            case 2: return one.place;
            case 3: return one.purse;
            case 4: return one.gone ? 1 : 0;
            case 5: return now.street.reachOf(one);
            case 6: return now.street.sightOf(one);
            case 7: return whatIf.shunnedBy(person, now.street);
            case 8: return now.street.firstSeenOnlyBy(one);
            default: return NONE;
        }
    }

    public int set(int person, int what, int n) {
        Person one = now.street.person(person);
        if (one == null || !isWithin(what, 1)) {
            return NONE;
        }
        if (!isWithin(n, what == 0 ? PLACES - 1 : LAST_PURSE)) {
            return BAD;
        }
        int before;
        if (what == 0) {
            before = one.place;
            one.place = n;
        } else {
            before = one.purse;
            one.purse = n;
        }
        return before;
    }

    public int leave(int person, boolean is) {
        Person one = now.street.person(person);
        if (one == null) {
            return NONE;
        }
        boolean before = one.gone;
        one.gone = is;
        return before ? 1 : 0;
    }

    public int walls(int bits) {
        if (!isWithin(bits, ALL_PLACES)) {
            return BAD;
        }
        int before = now.street.walls;
        now.street.walls = bits;
        return before;
    }

    public int row(int person, int part, int n) {
        Person one = now.street.person(person);
        if (one == null || !isWithin(part, ROW_PARTS - 1)) {
            return NONE;
        }
        if (!isWithin(n, LAST_ROW)) {
            return BAD;
        }
        if (one.kind != TOLD) {
            return STATE;
        }
        int before = one.row[part];
        one.row[part] = n;
        return before;
    }

    public int feed(int sign) {
        if (!isWithin(sign, LAST_SIGN)) {
            return BAD;
        }
        return text.add(sign);
    }

    public int statute() {
        if (laws >= MOST_LAWS) {
            return FULL;
        }
        Law law = text.enact();
        if (law == null) {
            return FAULT_BASE - text.at;
        }
        now.street.law = law;
        laws++;
        return laws - 1;
    }

    public int told(int what) {
        Street street = now.street;
        switch (what) {
            case 0: return street.day;
            case 1: return street.law.fine;
            case 2: return street.walls;
            case 3: return street.purses();
            case 4: return street.firstUnseen();
            case 5: return street.unseenPlaces();
            case 6: return street.mostSeenPlace();
            case 7: return street.dearestPlace();
            default: return NONE;
        }
    }

    // ---- deeds, days

    public int deed(int place) {
        if (!isPlace(place)) {
            return NONE;
        }
        return now.street.collect(place);
    }

    public int pass(int n) {
        if (!isWithin(n, MOST_DAYS)) {
            return BAD;
        }
        if (now.street.day + n > LAST_DAY) {
            return STATE;
        }
        now.street.goOn(n);
        return now.street.day;
    }

    public int at(int place, int what) {
        if (!isPlace(place)) {
            return NONE;
        }
        switch (what) {
            case 0: return now.street.seers(place);
            case 1: return now.street.paidFor(place);
            case 2: return whatIf.daysUntilUnseen(place, now.street);
            case 3: return now.street.bricks(place);
            default: return NONE;
        }
    }

    public int share(int person, int place) {
        Person one = now.street.person(person);
        if (one == null || !isPlace(place)) {
            return NONE;
        }
        return now.street.paidByOne(one, now.street.seers(place));
    }

    // ---- seen, odds

    public int see(int place, int n, int who) {
        if (place == -1) {
            return now.seen.empty();
        }
        if (!isPlace(place)) {
            return NONE;
        }
        if (!isWithin(n, MOST_SEEN_DAYS) || !isWithin(who, ALL_PEOPLE)) {
            return BAD;
        }
        return now.seen.add(place, n, who);
    }

    public int wrong() {
        return whatIf.firstFalse(now.seen, now.street);
    }

    public int from(int person) {
        Person one = now.street.person(person);
        if (one == null) {
            return NONE;
        }
        int bits = 0;
        for (int place = 0; place < PLACES; place++) {
            if (whatIf.agrees(person, place, one.v, now.seen, now.street)) {
                bits |= 1 << place;
            }
        }
        return bits;
    }

    public int can(int person, int what) {
        Person one = now.street.person(person);
        if (one == null || !isWithin(what, 1)) {
            return NONE;
        }
        int least = NOWHERE;
        int many = 0;
        for (int v = LAST_V; v >= 0; v--) {
            if (whatIf.agrees(person, one.place, v, now.seen, now.street)) {
                least = v;
                many++;
            }
        }
        return what == 0 ? many : least;
    }

    public long odds(int place, int part) {
        int people = now.street.count;
        if (!isPlace(place) || !isWithin(part, 1) || people == 0) {
            return NO;
        }
        int seers = now.street.seers(place);
        int good = 0;
        for (int i = 0; i < people; i++) {
            if ((seers & ~(1 << i)) == 0) {
                good++;
            }
        }
        return lowestTerms(good, people, part);
    }

    public long mean(int part) {
        if (!isWithin(part, 1)) {
            return NO;
        }
        int sum = 0;
        for (int place = 0; place < PLACES; place++) {
            sum += now.street.paidFor(place);
        }
        return lowestTerms(sum, PLACES, part);
    }

    // ---- plans, books

    public int plan(int what, int n) {
        if (what == -1) {
            return now.plan.empty();
        }
        if (!isPlanRow(what, n)) {
            return NONE;
        }
        return now.plan.add(what, n, 0);
    }

    public int ends(int what) {
        if (!isWithin(what, 1)) {
            return NONE;
        }
        Street end = whatIf.afterPlan(now.plan, now.street);
        return what == 0 ? end.purses() : end.unseenPlaces();
    }

    public int book(int person, int purse) {
        if (person == -1) {
            return now.book.empty();
        }
        if (now.street.person(person) == null) {
            return NONE;
        }
        if (!isWithin(purse, LAST_PURSE)) {
            return BAD;
        }
        return now.book.add(person, purse, 0);
    }

    public int looked() {
        for (int i = 0; i < now.book.rows; i++) {
            Person one = now.street.person(now.book.cell(i, 0));
            if (one == null || one.purse != now.book.cell(i, 1)) {
                return i;
            }
        }
        return NOWHERE;
    }

    // ---- judging, the image, acts, tapes

    public int judge(int tape, int i) {
        Tape witness = tapeOf(tape);
        if (witness == null) {
            return NONE;
        }
        if (witness.sort == EMPTY) {
            return JUDGED_SHORT;
        }
        if (witness.sort != BYTES) {
            return CAST;
        }
        now.street.look();
        for (int place = 0; place < PLACES; place++) {
            if (!witness.reaches(i, place + 1)) {
                return JUDGED_SHORT + place;
            }
            long due = now.street.seersInView(place) == 0 ? 0 : 1;
            if (witness.items[i + place] != due) {
                return place;
            }
        }
        return NOWHERE;
    }

    public int image() {
        kept.becomeLike(now);
        hasKept = true;
        return now.street.count;
    }

    public int undo() {
        if (!hasKept) {
            return STATE;
        }
        now.becomeLike(kept);
        return now.street.count;
    }

    public int act(int person, int act, int x) {
        Person one = now.street.person(person);
        if (one == null || !isWithin(act, TELLS)) {
            actor.forget();
            return 0;
        }
        return actor.perform(one, act, x);
    }

    public int trace(int i) {
        if (i < 0 || i >= actor.ran || i >= MOST_TRACE) {
            return NONE;
        }
        return actor.bodies[i];
    }

    public int taken(int person, int k) {
        if (!isWithin(k, TOLD)) {
            return BAD;
        }
        Person one = now.street.person(person);
        if (one == null) {
            return NOTHING;
        }
        return one.isOfKind(k) ? one.kind : CAST;
    }

    public int count(int what) {
        switch (what) {
            case 0: return now.street.count;
            case 1: return laws;
            case 2: return now.seen.rows;
            case 3: return now.plan.rows;
            case 4: return now.book.rows;
            case 5: return text.length;
            case 6: return actor.ran;
            default: return BAD;
        }
    }

    public int tape(int tape, int sort, int n) {
        Tape one = tapeOf(tape);
        if (one == null) {
            return NONE;
        }
        if (sort == EMPTY) {
            one.become(EMPTY, 0);
            return 1;
        }
        if (!isWithin(sort, BOOLEANS) || n > MOST_ITEMS) {
            return BAD;
        }
        if (n < 0) {
            return SIZE;
        }
        one.become(sort, n);
        return 1;
    }

    public int item(int tape, int i, long v) {
        Tape one = tapeOf(tape);
        if (one == null) {
            return NONE;
        }
        if (one.sort == EMPTY) {
            return NOTHING;
        }
        if (!one.reaches(i, 1)) {
            return NO_PLACE;
        }
        one.items[i] = one.narrowed(v);
        return 1;
    }

    public long read(int tape, int i) {
        Tape one = tapeOf(tape);
        if (one == null || one.sort == EMPTY || !one.reaches(i, 1)) {
            return NO;
        }
        return one.items[i];
    }

    public int shift(int tape, int i, int other, int j, int n) {
        Tape source = tapeOf(tape);
        Tape target = tapeOf(other);
        if (source == null || target == null) {
            return NONE;
        }
        if (source.sort == EMPTY || target.sort == EMPTY) {
            return NOTHING;
        }
        if (source.sort != target.sort) {
            return CAST;
        }
        if (!source.reaches(i, n) || !target.reaches(j, n)) {
            return NO_PLACE;
        }
        System.arraycopy(source.items, i, target.items, j, n);
        return n;
    }

    // ---- what the calls lean on

    private static boolean isWithin(int n, int last) {
        return n >= 0 && n <= last;
    }

    private static boolean isPlace(int place) {
        return isWithin(place, PLACES - 1);
    }

    private boolean isPlanRow(int what, int n) {
        switch (what) {
            case PLAN_DAY: return true;
            case PLAN_DEED:
            case PLAN_WALL: return isPlace(n);
            case PLAN_GONE: return now.street.person(n) != null;
            default: return false;
        }
    }

    private Tape tapeOf(int number) {
        return isWithin(number, TAPES - 1) ? tapes[number] : null;
    }

    private static long lowestTerms(int above, int below, int part) {
        int divisor = below;
        int rest = above;
        // Euclid's steps on numbers of 31 bits end within 46.
        for (int i = 0; i < 64 && rest != 0; i++) {
            int next = divisor % rest;
            divisor = rest;
            rest = next;
        }
        int chosen = part == 0 ? above : below;
        return divisor == 0 ? chosen : chosen / divisor;
    }

    /** One of the PEOPLE. Its number never changes, so a copy of it stands at the same number. */
    private static final class Person {
        private final int number;
        private int kind;
        private int v;
        private int place;
        private int purse;
        private boolean gone;
        private final int[] row = new int[ROW_PARTS];
        /** How far it saw when it last looked; -1 when it was GONE, for it sees not even its own PLACE then. */
        private int eye;

        Person(int number) {
            this.number = number;
        }

        void arrive(int newKind, int newV, int newPlace) {
            kind = newKind;
            v = newV;
            place = newPlace;
            purse = FIRST_PURSE;
            gone = false;
            for (int i = 0; i < ROW_PARTS; i++) {
                row[i] = 0;
            }
        }

        void becomeLike(Person other) {
            kind = other.kind;
            v = other.v;
            place = other.place;
            purse = other.purse;
            gone = other.gone;
            System.arraycopy(other.row, 0, row, 0, ROW_PARTS);
        }

        boolean isOfKind(int k) {
            return kind == k || k == KIND_ABOVE[kind] || k == ONE;
        }

        void walk(int days) {
            if (!gone && isOfKind(WALKER)) {
                place = (place + days * (v % 3)) % PLACES;
            }
        }

        int reach(int sum, int day) {
            int reach = sum;
            if (isOfKind(MIRROR)) {
                reach = 2 * sum;
            }
            if (kind == TOLD) {
                reach += row[day % ROW_PARTS];
            }
            if (kind == BLIND) {
                reach = sum / 2;
            }
            if (kind == THIEF && day % 2 == 1) {
                reach = 0;
            }
            return Math.max(0, Math.min(MOST_REACH, reach));
        }

        boolean sees(int target, int walls) {
            int right = (target - place + PLACES) % PLACES;
            int left = (PLACES - right) % PLACES;
            if (right <= eye && (walls & wayRight(place, right)) == 0) {
                return true;
            }
            return !isOfKind(HAND) && left <= eye && (walls & wayRight(target, left)) == 0;
        }

        int sight(int walls) {
            int bits = 0;
            for (int target = 0; target < PLACES; target++) {
                if (sees(target, walls)) {
                    bits |= 1 << target;
                }
            }
            return bits;
        }

        /** The walls that one passes who goes so many places to the right. */
        private static int wayRight(int start, int length) {
            int bits = ((1 << length) - 1) << start;
            return (bits | bits >> PLACES) & ALL_PLACES;
        }
    }

    /** What has been read from THE TEXT: every CLAUSE with its TESTS and signs in the order in which they are worked out. */
    private static final class Law {
        private int fine = BASE_FINE;
        private int clauses;
        private final int[] word = new int[MOST_CLAUSES];
        private final int[] amount = new int[MOST_CLAUSES];
        private final int[] end = new int[MOST_CLAUSES];
        private int steps;
        private final int[] step = new int[MOST_SIGNS];
        private final int[] subject = new int[LETTERS.length()];

        void clear() {
            fine = BASE_FINE;
            clauses = 0;
            steps = 0;
        }

        void addStep(int what) {
            if (steps < MOST_SIGNS) {
                step[steps] = what;
                steps++;
            }
        }

        void endClause(int itsWord, int n) {
            if (itsWord == FINE) {
                fine = n;
            }
            if (clauses < MOST_CLAUSES) {
                word[clauses] = itsWord;
                amount[clauses] = n;
                end[clauses] = steps;
                clauses++;
            }
        }

        int sum(Person one, int day) {
            subject[0] = one.number;
            subject[1] = one.kind;
            subject[2] = one.v;
            subject[3] = one.place;
            subject[4] = one.purse / 100;
            subject[5] = day % 10;
            int sum = BASE_SUM;
            int start = 0;
            for (int c = 0; c < clauses; c++) {
                if (word[c] != FINE && holds(start, end[c])) {
                    sum += word[c] == FAR ? amount[c] : -amount[c];
                }
                start = end[c];
            }
            return sum;
        }

        /** The truths that wait for their sign stand as bits, the newest lowest: nesting keeps them few. */
        private boolean holds(int start, int behind) {
            int truths = 0;
            for (int i = start; i < behind; i++) {
                int what = step[i];
                if (what == NOT) {
                    truths ^= 1;
                } else if (what == AND) {
                    truths = (truths >> 1) & (truths | ~1);
                } else if (what == OR) {
                    truths = (truths >> 1) | (truths & 1);
                } else {
                    int letter = what / LETTER_STEP;
                    int n = letter < subject.length ? subject[letter] : 0;
                    int relation = what % LETTER_STEP / RELATION_STEP;
                    int bound = what % RELATION_STEP;
                    boolean so = relation == BELOW ? n < bound : relation == EQUAL ? n == bound : n > bound;
                    truths = (truths << 1) | (so ? 1 : 0);
                }
            }
            return (truths & 1) == 1;
        }
    }

    /** THE TEXT, and how it is read: each of the reading methods says whether it could go on; if not, the FAULT is where it stands. */
    private static final class LawText {
        private final byte[] signs = new byte[MOST_SIGNS];
        private int length;
        private int at;
        private Law draft = new Law();

        int add(int sign) {
            if (length >= MOST_SIGNS) {
                return FULL;
            }
            signs[length] = (byte) sign;
            length++;
            return length;
        }

        /** Null when THE TEXT is no LAW: then the draft is used again, as laws alone are worth a new object. */
        Law enact() {
            at = 0;
            draft.clear();
            boolean good = readClause();
            // A ; behind the last CLAUSE that there may be is not taken, and so is the FAULT.
            for (int c = 1; c < MOST_CLAUSES && good && take(';'); c++) {
                good = readClause();
            }
            good = good && at == length;
            length = 0;
            if (!good) {
                return null;
            }
            Law law = draft;
            draft = new Law();
            return law;
        }

        private boolean readClause() {
            int word = readWord();
            if (word == NONE || !take(' ')) {
                return false;
            }
            int n = readNumber();
            if (n == NONE) {
                return false;
            }
            if (word != FINE && !(take(' ') && readEither(0))) {
                return false;
            }
            draft.endClause(word, n);
            return true;
        }

        private int readWord() {
            if (take('n')) {
                return take('e') && take('a') && take('r') ? NEAR : NONE;
            }
            if (!take('f')) {
                return NONE;
            }
            if (take('i')) {
                return take('n') && take('e') ? FINE : NONE;
            }
            return take('a') && take('r') ? FAR : NONE;
        }

        private boolean readEither(int nested) {
            if (!readBoth(nested)) {
                return false;
            }
            for (int i = 0; i < MOST_SIGNS && take('|'); i++) {
                if (!readBoth(nested)) {
                    return false;
                }
                draft.addStep(OR);
            }
            return true;
        }

        private boolean readBoth(int nested) {
            if (!readFactor(nested)) {
                return false;
            }
            for (int i = 0; i < MOST_SIGNS && take('&'); i++) {
                if (!readFactor(nested)) {
                    return false;
                }
                draft.addStep(AND);
            }
            return true;
        }

        private boolean readFactor(int nested) {
            if (nested < MOST_NESTED && take('(')) {
                return readEither(nested + 1) && take(')');
            }
            if (nested < MOST_NESTED && take('!')) {
                if (!readFactor(nested + 1)) {
                    return false;
                }
                draft.addStep(NOT);
                return true;
            }
            int letter = takeAnyOf(LETTERS);
            int relation = letter == NONE ? NONE : takeAnyOf(RELATIONS);
            int n = relation == NONE ? NONE : readNumber();
            if (n == NONE) {
                return false;
            }
            draft.addStep(letter * LETTER_STEP + relation * RELATION_STEP + n);
            return true;
        }

        private int readNumber() {
            int first = takeAnyOf("0123456789");
            if (first == NONE) {
                return NONE;
            }
            int second = takeAnyOf("0123456789");
            return second == NONE ? first : 10 * first + second;
        }

        private boolean take(char wanted) {
            if (at >= length || signs[at] != wanted) {
                return false;
            }
            at++;
            return true;
        }

        private int takeAnyOf(String wanted) {
            if (at >= length) {
                return NONE;
            }
            int which = wanted.indexOf((char) signs[at]);
            if (which < 0) {
                return NONE;
            }
            at++;
            return which;
        }
    }

    /** The PEOPLE, the WALLS, the DAY and the LAW that holds: all that goes on by itself. */
    private static final class Street {
        private final Person[] people = new Person[MOST_PEOPLE];
        private int count;
        private int walls;
        private int day;
        private Law law;

        Street(Law noLaw) {
            law = noLaw;
            for (int i = 0; i < MOST_PEOPLE; i++) {
                people[i] = new Person(i);
            }
        }

        void becomeLike(Street other) {
            count = other.count;
            walls = other.walls;
            day = other.day;
            law = other.law;
            for (int i = 0; i < count; i++) {
                people[i].becomeLike(other.people[i]);
            }
        }

        Person person(int number) {
            return number >= 0 && number < count ? people[number] : null;
        }

        int welcome(int kind, int v, int place) {
            if (count >= MOST_PEOPLE) {
                return FULL;
            }
            people[count].arrive(kind, v, place);
            count++;
            return count - 1;
        }

        void banish(int number) {
            Person one = person(number);
            if (one != null) {
                one.gone = true;
            }
        }

        void goOn(int days) {
            for (int i = 0; i < count; i++) {
                people[i].walk(days);
            }
            day += days;
        }

        int reachOf(Person one) {
            return one.reach(law.sum(one, day), day);
        }

        void look() {
            for (int i = 0; i < count; i++) {
                lookBy(people[i]);
            }
        }

        private void lookBy(Person one) {
            one.eye = one.gone ? -1 : reachOf(one);
        }

        /** Holds good only behind look(), which is dear: it works out every REACH. */
        int seersInView(int place) {
            return seersBehind(place, walls);
        }

        private int seersBehind(int place, int otherWalls) {
            int bits = 0;
            for (int i = 0; i < count; i++) {
                if (people[i].sees(place, otherWalls)) {
                    bits |= 1 << i;
                }
            }
            return bits;
        }

        int seers(int place) {
            look();
            return seersBehind(place, walls);
        }

        int sightOf(Person one) {
            lookBy(one);
            return one.sight(walls);
        }

        int firstSeenOnlyBy(Person one) {
            look();
            for (int place = 0; place < PLACES; place++) {
                if (seersInView(place) == 1 << one.number) {
                    return place;
                }
            }
            return NOWHERE;
        }

        int firstUnseen() {
            look();
            for (int place = 0; place < PLACES; place++) {
                if (seersInView(place) == 0) {
                    return place;
                }
            }
            return NOWHERE;
        }

        int unseenPlaces() {
            look();
            int many = 0;
            for (int place = 0; place < PLACES; place++) {
                if (seersInView(place) == 0) {
                    many++;
                }
            }
            return many;
        }

        int mostSeenPlace() {
            look();
            int best = 0;
            int most = -1;
            for (int place = 0; place < PLACES; place++) {
                int many = Integer.bitCount(seersInView(place));
                if (many > most) {
                    most = many;
                    best = place;
                }
            }
            return best;
        }

        int dearestPlace() {
            look();
            int best = 0;
            int most = -1;
            for (int place = 0; place < PLACES; place++) {
                int paid = paidBy(seersInView(place));
                if (paid > most) {
                    most = paid;
                    best = place;
                }
            }
            return best;
        }

        int purses() {
            int sum = 0;
            for (int i = 0; i < count; i++) {
                sum += people[i].purse;
            }
            return sum;
        }

        int paidFor(int place) {
            return paidBy(seers(place));
        }

        private int paidBy(int seers) {
            int sum = 0;
            for (int i = 0; i < count; i++) {
                sum += paidByOne(people[i], seers);
            }
            return sum;
        }

        int paidByOne(Person one, int seers) {
            int self = 1 << one.number;
            int many = Integer.bitCount(seers);
            if ((seers & self) == 0 || many == 0) {
                return 0;
            }
            int share = law.fine / many;
            if ((seers & (self - 1)) == 0) {
                share += law.fine % many;
            }
            if (one.kind == BLIND) {
                share /= 2;
            }
            return Math.min(share, one.purse);
        }

        /** All who SEE are found before the first pays, for a REACH may hang on a PURSE. */
        int collect(int place) {
            look();
            int seers = seersInView(place);
            int sum = 0;
            for (int i = 0; i < count; i++) {
                int paid = paidByOne(people[i], seers);
                people[i].purse -= paid;
                sum += paid;
            }
            return sum;
        }

        /** Two walls are enough, one on either side of the place, unless one stands on it. */
        int bricks(int place) {
            look();
            if (seersInView(place) == 0) {
                return 0;
            }
            for (int c = 0; c < PLACES; c++) {
                if (seersBehind(place, walls | 1 << c) == 0) {
                    return 1 << c;
                }
            }
            for (int c = 1; c < PLACES; c++) {
                for (int lower = 0; lower < c; lower++) {
                    int pair = 1 << c | 1 << lower;
                    if (seersBehind(place, walls | pair) == 0) {
                        return pair;
                    }
                }
            }
            return NOWHERE;
        }
    }

    /** What is asked about other places, numbers and days is tried on a street of its own, so that asking changes nothing. */
    private static final class WhatIf {
        private final Street trial;

        WhatIf(Law noLaw) {
            trial = new Street(noLaw);
        }

        int shunnedBy(int person, Street now) {
            trial.becomeLike(now);
            Person one = trial.person(person);
            int best = 0;
            int fewest = PLACES + 1;
            for (int place = 0; one != null && place < PLACES; place++) {
                one.place = place;
                int many = Integer.bitCount(trial.sightOf(one));
                if (many < fewest) {
                    fewest = many;
                    best = place;
                }
            }
            return best;
        }

        int daysUntilUnseen(int place, Street now) {
            trial.becomeLike(now);
            for (int days = 0; days <= MOST_DAYS; days++) {
                if (trial.seers(place) == 0) {
                    return days;
                }
                trial.goOn(1);
            }
            return NOWHERE;
        }

        int firstFalse(Table seen, Street now) {
            for (int i = 0; i < seen.rows; i++) {
                trial.becomeLike(now);
                trial.goOn(seen.cell(i, 1));
                if (trial.seers(seen.cell(i, 0)) != seen.cell(i, 2)) {
                    return i;
                }
            }
            return NOWHERE;
        }

        /** Whether SEEN is so as far as one goes, were it at that place with that v now. */
        boolean agrees(int person, int place, int v, Table seen, Street now) {
            for (int i = 0; i < seen.rows; i++) {
                trial.becomeLike(now);
                Person one = trial.person(person);
                if (one == null) {
                    return false;
                }
                one.place = place;
                one.v = v;
                trial.goOn(seen.cell(i, 1));
                int sees = trial.sightOf(one) >> seen.cell(i, 0) & 1;
                if (sees != (seen.cell(i, 2) >> person & 1)) {
                    return false;
                }
            }
            return true;
        }

        Street afterPlan(Table plan, Street now) {
            trial.becomeLike(now);
            for (int i = 0; i < plan.rows; i++) {
                int n = plan.cell(i, 1);
                switch (plan.cell(i, 0)) {
                    case PLAN_DAY:
                        trial.goOn(1);
                        break;
                    case PLAN_DEED:
                        trial.collect(n);
                        break;
                    case PLAN_WALL:
                        trial.walls ^= 1 << n;
                        break;
                    default:
                        trial.banish(n);
                        break;
                }
            }
            return trial;
        }
    }

    /** Rows of up to three numbers told by hand. */
    private static final class Table {
        private static final int WIDTH = 3;
        private final int[] cells;
        private final int most;
        private int rows;

        Table(int most) {
            this.most = most;
            cells = new int[most * WIDTH];
        }

        int empty() {
            rows = 0;
            return 0;
        }

        int add(int first, int second, int third) {
            if (rows >= most) {
                return FULL;
            }
            int start = rows * WIDTH;
            cells[start] = first;
            cells[start + 1] = second;
            cells[start + 2] = third;
            rows++;
            return rows;
        }

        int cell(int row, int column) {
            int place = row * WIDTH + column;
            return isWithin(place, cells.length - 1) ? cells[place] : 0;
        }

        void becomeLike(Table other) {
            rows = other.rows;
            System.arraycopy(other.cells, 0, cells, 0, Math.min(cells.length, other.cells.length));
        }
    }

    /** All that THE IMAGE keeps. */
    private static final class Scene {
        private final Street street;
        private final Table seen = new Table(MOST_SEEN);
        private final Table plan = new Table(MOST_PLAN);
        private final Table book = new Table(MOST_BOOK);

        Scene(Law noLaw) {
            street = new Street(noLaw);
        }

        void becomeLike(Scene other) {
            street.becomeLike(other.street);
            seen.becomeLike(other.seen);
            plan.becomeLike(other.plan);
            book.becomeLike(other.book);
        }
    }

    /**
     * Runs the bodies of one's ACT and keeps THE TRACE. Each method takes the KIND from which on,
     * upward, a body is sought. Their calls end, for each is for a KIND above or for an ACT ahead of its own.
     */
    private static final class Actor {
        private final int[] bodies = new int[MOST_TRACE];
        private int ran;
        private int number;
        private int v;
        private int kind;

        void forget() {
            ran = 0;
        }

        int perform(Person one, int act, int x) {
            ran = 0;
            number = one.number;
            v = one.v;
            kind = one.kind;
            if (act == LOOKS) {
                return looks(kind, x);
            }
            return act == SWEARS ? swears(kind, x) : tells(kind, x);
        }

        private void begin(int body) {
            if (ran < MOST_TRACE) {
                bodies[ran] = body;
            }
            ran++;
        }

        private int looks(int seek, int x) {
            switch (seek) {
                case TOLD:
                    begin(71);
                    return looks(MIRROR, x) ^ v;
                case THIEF:
                    begin(50);
                    return -looks(WALKER, x);
                case BLIND:
                case HAND:
                    begin(30);
                    return looks(ONE, x * 3);
                default:
                    begin(10);
                    return x + number;
            }
        }

        private int swears(int seek, int x) {
            switch (seek) {
                case TOLD:
                    begin(70);
                    return swears(MIRROR, x) + looks(MIRROR, 2);
                case THIEF:
                    begin(51);
                    return swears(WALKER, x + 1);
                case WALKER:
                    begin(20);
                    return swears(ONE, x) ^ 6;
                default:
                    begin(11);
                    return looks(kind, x) - v;
            }
        }

        private int tells(int seek, int x) {
            switch (seek) {
                case TOLD:
                case MIRROR:
                    begin(40);
                    return tells(ONE, x) + swears(kind, 1);
                case BLIND:
                    begin(60);
                    return tells(HAND, x - number);
                default:
                    begin(12);
                    return swears(kind, x) * 2;
            }
        }
    }

    /** A row of any sort is kept as longs, cut to what an item of that sort holds. */
    private static final class Tape {
        private int sort = EMPTY;
        private int length;
        private final long[] items = new long[MOST_ITEMS];

        void become(int newSort, int n) {
            sort = newSort;
            length = n;
            for (int i = 0; i < MOST_ITEMS; i++) {
                items[i] = 0;
            }
        }

        /** Whether n items from i on are there. */
        boolean reaches(int i, int n) {
            return i >= 0 && n >= 0 && n <= length - i;
        }

        long narrowed(long v) {
            switch (sort) {
                case BYTES: return (byte) v;
                case SHORTS: return (short) v;
                case INTS: return (int) v;
                case BOOLEANS: return v == 0 ? 0 : 1;
                default: return v;
            }
        }
    }
}
