/** Each sentence of the Terms that names a bound, a rounding, a wrap-around, something empty or something full. */
public final class TermsEdgesTest {
    private static final Check c = new Check();
    /** SUM is 2 and this one's n more, or less: letters for all PEOPLE. */
    private static final String ALL = " p<9";

    public static void main(String[] args) {
        ring();
        atFirst();
        clauses();
        numbers();
        letters();
        nesting();
        faultByEverySign();
        faultAtTheEnd();
        afterFaults();
        holdingLaw();
        sumBelowZero();
        reach();
        rows();
        sees();
        shares();
        purses();
        walkers();
        hiddenOpenCostly();
        when();
        bricks();
        shun();
        alone();
        seen();
        from();
        can();
        odds();
        mean();
        plan();
        book();
        acts();
        image();
        judged();
        c.end("TermsEdgesTest");
    }

    /** A street with one of a KIND on it, its v 0, under a law. */
    private static WitnessPays street(int kind, int place, String law) {
        WitnessPays x = new WitnessPays();
        x.one(kind, 0, place);
        if (!law.isEmpty()) {
            c.due("statute() of " + law, Check.enact(x, law), 0);
        }
        return x;
    }

    private static void go(WitnessPays x, int day) {
        while (x.told(0) < day) {
            x.pass(Math.min(60, day - x.told(0)));
        }
    }

    // ---- 1

    /** To the right of 11 is 0; the WALL there is bit 11. */
    private static void ring() {
        c.due("to the right of 11", street(2, 11, "near 1" + ALL).of(0, 6), 1 << 11 | 1);
        c.due("to the left of 0", street(0, 0, "near 1" + ALL).of(0, 6), 1 << 11 | 1 << 1 | 1);
        WitnessPays x = street(0, 11, "");
        x.walls(1 << 11);
        c.due("bit 11 is between 11 and 0, seen from 11", x.of(0, 6), 0b111000000000);
        x.set(0, 0, 0);
        c.due("bit 11 is between 11 and 0, seen from 0", x.of(0, 6), 0b000000000111);
        x.walls(1 << 10);
        c.due("bit 10 is between 10 and 11", x.of(0, 6), 0b100000000111);
        x.walls(1);
        c.due("bit 0 is between 0 and 1", x.of(0, 6), 0b110000000001);
        x.set(0, 0, 1);
        c.due("bit 0 is between 0 and 1, seen from 1", x.of(0, 6), 0b000000001110);
    }

    private static void atFirst() {
        WitnessPays x = new WitnessPays();
        c.due("no WALLS at first", x.walls(1), 0);
        c.due("DAY is 0 at first", x.pass(0), 0);
        x.one(6, 9, 11);
        c.due("PURSE is 100 at first", x.set(0, 1, 100), 100);
        c.due("not GONE at first", x.leave(0, false), 0);
        for (int part = 0; part < 4; part++) {
            c.due("ROW is 0 at first", x.row(0, part, 0), 0);
        }
        for (int tape = 0; tape < 6; tape++) {
            c.due("TAPES hold nothing at first", x.item(tape, 0, 0), -11);
        }
    }

    /** CLAUSES, 1 to 10. */
    private static void clauses() {
        String nine = "fine 1;fine 1;fine 1;fine 1;fine 1;fine 1;fine 1;fine 1;fine 1;";
        c.due("no CLAUSE: its first byte is missing", Check.enact(street(0, 0, ""), ""), -10);
        c.due("one CLAUSE", Check.enact(street(0, 0, ""), "fine 1"), 0);
        WitnessPays x = street(0, 0, nine + "far 5" + ALL);
        c.due("the tenth CLAUSE counts", x.of(0, 5), 7);
        c.due("the tenth is the last FINE", street(0, 0, nine + "fine 2").told(1), 2);
        c.due("an eleventh begins at a ; that none has", Check.enact(x, nine + "fine 1;fine 1"), -10 - 69);
        c.due("so it does, if nothing is behind it", Check.enact(x, nine + "fine 1;"), -10 - 69);
        c.due("nine and a ; end too early", Check.enact(x, nine), -10 - 63);
    }

    /** n 1 or 2 digits; a number likewise; one blank ahead of each part. */
    private static void numbers() {
        c.due("n 0", street(0, 0, "fine 0").told(1), 0);
        c.due("n 00", street(0, 0, "fine 00").told(1), 0);
        c.due("n 9", street(0, 0, "fine 9").told(1), 9);
        c.due("n 09", street(0, 0, "fine 09").told(1), 9);
        c.due("n 10", street(0, 0, "fine 10").told(1), 10);
        c.due("n 99", street(0, 0, "fine 99").told(1), 99);
        c.due("a third digit of n", Check.enact(street(0, 0, ""), "fine 100"), -17);
        c.due("a third digit of a far n", Check.enact(street(0, 0, ""), "far 100 p=1"), -16);
        c.due("number 0", street(0, 0, "far 1 p=0").of(0, 5), 3);
        c.due("number 00", street(0, 0, "far 1 p=00").of(0, 5), 3);
        c.due("number 99", street(0, 0, "far 1 p<99").of(0, 5), 3);
        c.due("a third digit of a number", Check.enact(street(0, 0, ""), "far 1 p<100"), -20);
        c.due("no digit: /", Check.enact(street(0, 0, ""), "fine /"), -15);
        c.due("no digit: :", Check.enact(street(0, 0, ""), "fine :"), -15);
        c.due("no blank", Check.enact(street(0, 0, ""), "fine1"), -14);
        c.due("two blanks", Check.enact(street(0, 0, ""), "fine  1"), -15);
        c.due("no blank ahead of E", Check.enact(street(0, 0, ""), "far 1p=1"), -15);
        c.due("two blanks ahead of E", Check.enact(street(0, 0, ""), "far 1  p=1"), -16);
        c.due("a blank at the beginning", Check.enact(street(0, 0, ""), " fine 1"), -10);
        c.due("a blank at the end", Check.enact(street(0, 0, ""), "fine 1 "), -16);
        c.due("a blank behind a ;", Check.enact(street(0, 0, ""), "fine 1; fine 1"), -17);
    }

    /** The least and the most of what each letter reads, and what is next to it. */
    private static void letters() {
        WitnessPays x = new WitnessPays();
        for (int i = 0; i < 6; i++) {
            x.one(i + 1, i == 0 ? 9 : 0, i == 5 ? 11 : 0);
        }
        dueReach(x, 5, "far 1 p=5", 6);
        dueReach(x, 4, "far 8 p=5", 1);
        dueReach(x, 0, "far 1 k=1", 3);
        dueReach(x, 5, "far 1 k=6", 6);
        dueReach(x, 5, "far 1 k>6", 4);
        WitnessPays y = new WitnessPays();
        y.one(0, 9, 11);
        y.one(0, 0, 0);
        dueReach(y, 0, "far 1 v=9;far 2 a=11", 5);
        dueReach(y, 1, "far 1 v=0;far 2 a=0", 5);
        dueReach(y, 0, "far 1 v>8;far 2 a>10", 5);
        dueReach(y, 1, "far 1 v<1;far 2 a<1;far 4 k=0", 9);
        dueReach(y, 0, "far 1 v>9;far 2 a>11;far 4 k>0;far 3 p>0", 2);
        dueReach(y, 1, "far 1 v<0;far 2 a<0;far 4 k<0;far 3 p<1", 2);
        letterOfPurse();
        letterOfDay();
        lettersBesideTheMostNumber();
    }

    /** One more LAW on the street, which takes six. */
    private static void dueReach(WitnessPays x, int person, String law, int reach) {
        c.holds("a law: " + law, Check.enact(x, law) >= 0);
        c.due("REACH of " + person + " under " + law, x.of(person, 5), reach);
    }

    /** m its PURSE by 100 (cut). */
    private static void letterOfPurse() {
        int[][] rows = {{0, 0}, {99, 0}, {100, 1}, {199, 1}, {200, 2}, {9899, 98}, {9900, 99}, {9999, 99}};
        for (int[] row : rows) {
            WitnessPays x = street(0, 0, "far 1 m=" + row[1]);
            x.set(0, 1, row[0]);
            c.due("PURSE " + row[0] + " is m " + row[1], x.of(0, 5), 3);
        }
    }

    /** Only m comes up to 99. */
    private static void lettersBesideTheMostNumber() {
        for (char letter : "pkvamd".toCharArray()) {
            WitnessPays x = street(0, 11, "far 1 " + letter + "<99;far 2 " + letter + "=99;far 4 " + letter + ">99");
            x.set(0, 1, 9999);
            c.due(letter + " beside 99", x.of(0, 5), letter == 'm' ? 4 : 3);
            WitnessPays y = street(0, 11, "far 1 " + letter + "<98;far 2 " + letter + "=98;far 4 " + letter + ">98");
            y.set(0, 1, 9999);
            c.due(letter + " beside 98", y.of(0, 5), letter == 'm' ? 6 : 3);
        }
    }

    /** d the DAY modulo 10. */
    private static void letterOfDay() {
        int[][] rows = {{0, 0}, {1, 1}, {9, 9}, {10, 0}, {19, 9}, {20, 0}, {9990, 0}, {9999, 9}};
        for (int[] row : rows) {
            WitnessPays x = street(0, 0, "far 1 d=" + row[1]);
            go(x, row[0]);
            c.due("DAY " + row[0] + " is d " + row[1], x.of(0, 5), 3);
        }
    }

    /** A ( or ! within 4 others is none. */
    private static void nesting() {
        String[] lawful = {"((((p=0))))", "!!!!p=0", "!(!(p=0))", "(!(!p=0))", "((((p=0))))&((((p=0))))|!!!!p=0"};
        for (String e : lawful) {
            c.due("four deep: " + e, street(0, 0, "far 1 " + e).of(0, 5), 3);
        }
        c.due("a fifth (", Check.enact(street(0, 0, ""), "far 1 (((((p=0)))))"), -20);
        c.due("a fifth !", Check.enact(street(0, 0, ""), "far 1 !!!!!p=0"), -20);
        c.due("a ( within four !", Check.enact(street(0, 0, ""), "far 1 !!!!(p=0)"), -20);
        c.due("a ! within four (", Check.enact(street(0, 0, ""), "far 1 ((((!p=0))))"), -20);
        c.due("a fifth, mixed", Check.enact(street(0, 0, ""), "far 1 !(!(p=1&!p=0))"), -24);
        c.due("behind four that are closed, a fifth", Check.enact(street(0, 0, ""), "far 1 ((((p=0))))&(((((p=0)))))"), -10 - 22);
    }

    /** Every sign behind every kind of beginning: with those that are named a LAW may begin, with no other. */
    private static void faultByEverySign() {
        String digits = "0123456789";
        String factor = "(!pkvamd";
        String ten = "fine 1;fine 1;fine 1;fine 1;fine 1;fine 1;fine 1;fine 1;fine 1;";
        String[][] rows = {
            {"", "fn"}, {"f", "ai"}, {"fa", "r"}, {"far", " "}, {"far ", digits}, {"far 0", digits + " "}, {"far 10", " "},
            {"n", "e"}, {"ne", "a"}, {"nea", "r"}, {"near", " "}, {"near ", digits}, {"near 9", digits + " "}, {"near 99", " "},
            {"fi", "n"}, {"fin", "e"}, {"fine", " "}, {"fine ", digits}, {"fine 1", digits + ";"}, {"fine 12", ";"},
            {"fine 1;", "fn"}, {"far 1 p=1;", "fn"}, {ten, "fn"}, {ten + "fine 1", digits}, {ten + "fine 12", ""},
            {"far 1 ", factor}, {"near 12 ", factor}, {"far 1 p=1&", factor}, {"far 1 p=1|", factor}, {"far 1 p=1|p=1&", factor},
            {"far 1 p", "<=>"}, {"far 1 k", "<=>"}, {"far 1 v", "<=>"}, {"far 1 a", "<=>"}, {"far 1 m", "<=>"}, {"far 1 d", "<=>"},
            {"far 1 p<", digits}, {"far 1 p=", digits}, {"far 1 p>", digits},
            {"far 1 p<1", digits + "&|;"}, {"far 1 p<12", "&|;"}, {ten + "far 1 p<1", digits + "&|"}, {ten + "far 1 p<12", "&|"},
            {"far 1 (", factor}, {"far 1 !", factor}, {"far 1 (((", factor}, {"far 1 !!!", factor}, {"far 1 (!(", factor},
            {"far 1 ((((", "pkvamd"}, {"far 1 !!!!", "pkvamd"}, {"far 1 (!(!", "pkvamd"}, {"far 1 ((((p=1|", "pkvamd"},
            {"far 1 (p=1", digits + "&|)"}, {"far 1 (p=12", "&|)"}, {"far 1 (p=1)", "&|;"}, {"far 1 ((p=1)", "&|)"},
            {"far 1 !p=1", digits + "&|;"}, {"far 1 !(p=1)", "&|;"}, {"far 1 !!!!p=1&", factor}, {"far 1 ((((p=1))))|", factor},
            {"far 1 (((!p=1&", factor}, {"far 1 (((p=1)", "&|)"}, {"far 1 !(p=1", digits + "&|)"},
        };
        for (String[] row : rows) {
            for (int sign = 0; sign <= 127; sign++) {
                WitnessPays x = new WitnessPays();
                int got = Check.enact(x, row[0] + (char) sign);
                boolean goesOn = row[1].indexOf(sign) >= 0;
                boolean isLaw = goesOn && got == 0;
                int fault = row[0].length() + (goesOn ? 1 : 0);
                c.due("sign " + sign + " behind " + row[0], got, isLaw ? 0 : -10 - fault);
            }
            c.due("the end behind " + row[0] + ", a LAW or its FAULT", Math.min(Check.enact(new WitnessPays(), row[0]), 0),
                isWhole(row[0]) ? 0 : -10 - row[0].length());
        }
    }

    /** Of the beginnings above: a LAW ends behind a digit of a fine, of a TEST, or behind its last bracket. */
    private static boolean isWhole(String text) {
        String last = text.substring(text.lastIndexOf(';') + 1);
        long opened = last.chars().filter(sign -> sign == '(').count();
        long closed = last.chars().filter(sign -> sign == ')').count();
        return last.matches("fine [0-9]+|(far|near) [0-9]+ .*([<=>][0-9]+|\\))") && opened == closed;
    }

    /** THE TEXT has 100 bytes at most; the end of it is the FAULT, if it ends too early. */
    private static void faultAtTheEnd() {
        StringBuilder s = new StringBuilder("far 01 p=01");
        for (int i = 0; i < 21; i++) {
            s.append("|p=1");
        }
        s.append("|p=00");
        c.due("signs of a full TEXT", s.length(), 100);
        WitnessPays x = street(0, 0, s.toString());
        c.due("a LAW of 100 bytes, all of which count", x.of(0, 5), 3);
        s.setLength(99);
        c.due("99 bytes", Check.enact(x, s.toString()), 1);
        s.setLength(98);
        c.due("98 bytes that end too early", Check.enact(x, s.toString()), -10 - 98);
        c.due("100 bytes that end too early", Check.enact(x, s + "0|"), -10 - 100);
        c.due("with the last of 100 bytes none begins so", Check.enact(x, s + "0!"), -10 - 99);
        String part = "near 12 !(p<1|k>2&a=3)";
        for (int i = 0; i < part.length(); i++) {
            c.due("FAULT of " + part.substring(0, i), Check.enact(x, part.substring(0, i)), -10 - i);
        }
        c.due("whole", Check.enact(x, part), 2);
    }

    /** What was read ahead of a FAULT is nothing, however much it was. */
    private static void afterFaults() {
        StringBuilder s = new StringBuilder("far 1 p=0");
        for (int i = 0; i < 22; i++) {
            s.append("|p=0");
        }
        for (int many = 0; many < 6; many++) {
            WitnessPays x = street(0, 0, "");
            for (int i = 0; i < many; i++) {
                c.due("a FAULT behind 23 TESTS", Check.enact(x, s + "."), -10 - 97);
                c.due("a FAULT behind two CLAUSES", Check.enact(x, "fine 3;far 9 p=0."), -10 - 16);
            }
            c.due("a LAW behind " + many, Check.enact(x, "far 2 p=1"), 0);
            c.due("REACH", x.of(0, 5), 2);
            c.due("FINE", x.told(1), 20);
            c.due("another", Check.enact(x, s.toString()), 1);
            c.due("REACH", x.of(0, 5), 3);
        }
    }

    /** Six at most; without one there are no CLAUSES; FINE 20 without. */
    private static void holdingLaw() {
        WitnessPays x = street(0, 0, "");
        c.due("FINE without a LAW", x.told(1), 20);
        c.due("SUM without a LAW", x.of(0, 5), 2);
        Check.enact(x, "far 1 p=0");
        c.due("FINE without a fine", x.told(1), 20);
        Check.enact(x, "fine 3");
        c.due("the older LAW's far is no more", x.of(0, 5), 2);
        Check.enact(x, "far 2 p=0");
        c.due("the older LAW's FINE is no more", x.told(1), 20);
        for (int i = 3; i < 6; i++) {
            c.due("a LAW", Check.enact(x, "fine " + i), i);
        }
        c.due("the seventh", Check.enact(x, "fine 9"), -4);
        c.due("the sixth holds", x.told(1), 5);
    }

    /** SUM may be below 0, together and on the way. */
    private static void sumBelowZero() {
        c.due("below 0 on the way", street(0, 0, "near 9" + ALL + ";far 8" + ALL).of(0, 5), 1);
        c.due("above 11 on the way", street(0, 0, "far 99" + ALL + ";near 98" + ALL).of(0, 5), 3);
        c.due("the least SUM", street(0, 0, "near 99" + ALL + ";near 99" + ALL).of(0, 5), 0);
        c.due("0 more", street(0, 0, "far 0" + ALL).of(0, 5), 2);
        WitnessPays x = street(6, 0, "near 3" + ALL);
        x.row(0, 0, 5);
        c.due("a ROW on top of twice -1", x.of(0, 5), 3);
        x.row(0, 0, 2);
        c.due("2 on top of twice -1", x.of(0, 5), 0);
        x.row(0, 0, 1);
        c.due("1 on top of twice -1", x.of(0, 5), 0);
    }

    /** 0 at least, 11 at most, in the end; BLIND the half, cut toward 0; THIEF 0, if DAY is odd. */
    private static void reach() {
        int[][] rows = {
            // SUM, and REACH of the KINDS 0 .. 6 on an even DAY
            {-1, 0, 0, 0, 0, 0, 0, 0}, {0, 0, 0, 0, 0, 0, 0, 0}, {1, 1, 1, 1, 2, 1, 0, 2}, {2, 2, 2, 2, 4, 2, 1, 4},
            {3, 3, 3, 3, 6, 3, 1, 6}, {5, 5, 5, 5, 10, 5, 2, 10}, {6, 6, 6, 6, 11, 6, 3, 11}, {11, 11, 11, 11, 11, 11, 5, 11},
            {12, 11, 11, 11, 11, 11, 6, 11}, {21, 11, 11, 11, 11, 11, 10, 11}, {22, 11, 11, 11, 11, 11, 11, 11},
            {23, 11, 11, 11, 11, 11, 11, 11}, {24, 11, 11, 11, 11, 11, 11, 11}, {-3, 0, 0, 0, 0, 0, 0, 0},
        };
        for (int[] row : rows) {
            String law = row[0] < 2 ? "near " + (2 - row[0]) : "far " + (row[0] - 2);
            for (int kind = 0; kind <= 6; kind++) {
                WitnessPays x = street(kind, 0, law + ALL);
                c.due("REACH of KIND " + kind + ", SUM " + row[0], x.of(0, 5), row[kind + 1]);
                x.pass(1);
                c.due("on an odd DAY", x.of(0, 5), kind == 4 ? 0 : row[kind + 1]);
            }
        }
        WitnessPays thief = street(4, 0, "");
        go(thief, 9998);
        c.due("THIEF on DAY 9998", thief.of(0, 5), 2);
        go(thief, 9999);
        c.due("THIEF on DAY 9999", thief.of(0, 5), 0);
    }

    /** ROW at DAY modulo 4. */
    private static void rows() {
        WitnessPays x = street(6, 0, "near 2" + ALL);
        for (int part = 0; part < 4; part++) {
            x.row(0, part, part == 3 ? 9 : part);
        }
        int[] days = {0, 1, 2, 3, 4, 7, 8, 9996, 9999};
        int[] due = {0, 1, 2, 9, 0, 9, 0, 0, 9};
        for (int i = 0; i < days.length; i++) {
            go(x, days[i]);
            c.due("REACH by the ROW on DAY " + days[i], x.of(0, 5), due[i]);
        }
    }

    private static void sees() {
        for (int kind = 0; kind <= 6; kind++) {
            boolean left = kind != 2 && kind != 5;
            WitnessPays x = street(kind, 5, "near 2" + ALL);
            c.due("REACH 0: its own place", x.of(0, 6), 1 << 5);
            x.walls(4095);
            c.due("its own place between WALLS", x.of(0, 6), 1 << 5);
            x.leave(0, true);
            c.due("GONE: not its own place", x.at(5, 0), 0);
            WitnessPays far = street(kind, 5, "far 99" + ALL);
            c.due("REACH 11: all", far.of(0, 6), 4095);
            far.walls(1 << 4);
            c.due("all, to the right as far as the WALL", far.of(0, 6), 4095);
            far.walls(1 << 5);
            c.due("nothing to the right", far.of(0, 6), left ? 4095 : 1 << 5);
            far.walls(1 << 4 | 1 << 5);
            c.due("nothing on either side", far.of(0, 6), 1 << 5);
            far.walls(1 << 4 | 1 << 6);
            c.due("one place to the right", far.of(0, 6), 1 << 5 | 1 << 6);
            far.walls(1 << 3 | 1 << 5);
            c.due("one place to the left", far.of(0, 6), left ? 1 << 5 | 1 << 4 : 1 << 5);
        }
        WitnessPays x = street(0, 3, "");
        c.due("REACH to the right", x.at(5, 0), 1);
        c.due("one more", x.at(6, 0), 0);
        c.due("REACH to the left", x.at(1, 0), 1);
        c.due("one more", x.at(0, 0), 0);
        x.walls(1 << 5);
        c.due("a WALL behind the last place", x.at(5, 0), 1);
        x.walls(1 << 4);
        c.due("a WALL ahead of it", x.at(5, 0), 0);
        x.walls(1);
        c.due("a WALL behind the last place to the left", x.at(1, 0), 1);
        x.walls(1 << 1);
        c.due("a WALL ahead of it", x.at(1, 0), 0);
        WitnessPays six = street(0, 0, "far 4" + ALL);
        six.walls(1 << 2);
        c.due("the opposite place, a WALL to the right: by the left", six.at(6, 0), 1);
        six.walls(1 << 2 | 1 << 9);
        c.due("WALLS on both ways", six.at(6, 0), 0);
    }

    /** FINE by n (cut), the first of them what is left over, too; BLIND the half of that, cut. */
    private static void shares() {
        int[][] rows = {
            // FINE, and what six at one place PAY
            {0, 0, 0, 0, 0, 0, 0}, {1, 1, 0, 0, 0, 0, 0}, {5, 5, 0, 0, 0, 0, 0}, {6, 1, 1, 1, 1, 1, 1}, {7, 2, 1, 1, 1, 1, 1},
            {11, 6, 1, 1, 1, 1, 1}, {12, 2, 2, 2, 2, 2, 2}, {99, 19, 16, 16, 16, 16, 16},
        };
        for (int[] row : rows) {
            WitnessPays x = new WitnessPays();
            for (int i = 0; i < 6; i++) {
                x.one(0, 0, 0);
            }
            Check.enact(x, "fine " + row[0]);
            for (int i = 0; i < 6; i++) {
                c.due("SHARE of " + i + ", FINE " + row[0], x.share(i, 0), row[i + 1]);
            }
            c.due("together", x.deed(0), row[0]);
            c.due("PURSES", x.told(3), 600 - row[0]);
        }
        WitnessPays x = street(0, 6, "fine 7");
        x.one(5, 0, 0);
        x.one(0, 0, 0);
        c.due("the first of those who SEE it is 1, BLIND: half of 4", x.share(1, 0), 2);
        c.due("the second: 3", x.share(2, 0), 3);
        c.due("who SEES it not", x.share(0, 0), 0);
        c.due("nobody: nothing is PAID", x.deed(9), 0);
        Check.enact(x, "fine 1");
        c.due("BLIND: half of 1", x.share(1, 0), 0);
        c.due("the second: none of 1", x.share(2, 0), 0);
        x.leave(2, true);
        Check.enact(x, "fine 9");
        c.due("BLIND alone: half of 9", x.deed(0), 4);
        c.due("its PURSE", x.of(1, 3), 96);
    }

    /** As far as its PURSE goes. */
    private static void purses() {
        int[][] rows = {{0, 0}, {1, 1}, {98, 98}, {99, 99}, {100, 99}, {9999, 99}};
        for (int[] row : rows) {
            WitnessPays x = street(0, 0, "fine 99");
            x.set(0, 1, row[0]);
            c.due("PAID of PURSE " + row[0], x.deed(0), row[1]);
            c.due("left of PURSE " + row[0], x.of(0, 3), row[0] - row[1]);
        }
        int[][] blind = {{48, 48}, {49, 49}, {50, 49}};
        for (int[] row : blind) {
            WitnessPays x = street(5, 0, "fine 99");
            x.set(0, 1, row[0]);
            c.due("BLIND PAYS of PURSE " + row[0], x.deed(0), row[1]);
            c.due("left of PURSE " + row[0], x.of(0, 3), row[0] - row[1]);
        }
    }

    /** v modulo 3 places farther to the right, over the end of the ring; not one who is GONE. */
    private static void walkers() {
        for (int v = 0; v <= 9; v++) {
            WitnessPays x = new WitnessPays();
            for (int kind = 0; kind <= 5; kind++) {
                x.one(kind, v, 11);
            }
            x.pass(1);
            for (int kind = 0; kind <= 5; kind++) {
                int steps = kind == 1 || kind == 4 ? v % 3 : 0;
                c.due("KIND " + kind + " with v " + v, x.of(kind, 2), (11 + steps) % 12);
            }
            x.leave(1, true);
            x.pass(60);
            c.due("60 DAYS are some rounds", x.of(4, 2), (11 + v % 3) % 12);
            c.due("a GONE WALKER", x.of(1, 2), (11 + v % 3) % 12);
        }
        WitnessPays x = street(6, 11, "");
        x.pass(1);
        c.due("a TOLD one stays", x.of(0, 2), 11);
    }

    // ---- 2

    private static void hiddenOpenCostly() {
        WitnessPays x = new WitnessPays();
        c.due("HIDDEN of nobody", x.told(4), 0);
        c.due("how many", x.told(5), 12);
        c.due("OPEN of nobody", x.told(6), 0);
        c.due("COSTLY of nobody", x.told(7), 0);
        WitnessPays all = street(0, 0, "far 9" + ALL);
        c.due("HIDDEN: none", all.told(4), -5);
        c.due("none", all.told(5), 0);
        c.due("OPEN: all alike", all.told(6), 0);
        c.due("COSTLY: all alike", all.told(7), 0);
        all.walls(1 << 10 | 1 << 11);
        c.due("HIDDEN: the last alone", all.told(4), 11);
        c.due("one", all.told(5), 1);
        all.set(0, 0, 11);
        c.due("OPEN: the last alone", all.told(6), 11);
        c.due("COSTLY: the last alone", all.told(7), 11);
        all.set(0, 1, 0);
        c.due("COSTLY of an empty PURSE", all.told(7), 0);
        c.due("OPEN of it", all.told(6), 11);
        all.leave(0, true);
        c.due("OPEN of a GONE one", all.told(6), 0);
    }

    /** DAYS 0 .. 60; -5: on none; beyond 9999, too. */
    private static void when() {
        c.due("nobody", new WitnessPays().at(0, 2), 0);
        c.due("always", street(0, 0, "").at(0, 2), -5);
        WitnessPays x = new WitnessPays();
        x.one(6, 0, 0);
        for (int part = 0; part < 3; part++) {
            x.row(0, part, 9);
        }
        x.one(1, 1, 8);
        Check.enact(x, "near 2 p=0&d=9;far 3 p=1");
        c.due("59 DAYS: one on DAYS of 19 modulo 20, the other on those of 11 modulo 12", x.at(1, 2), 59);
        x.pass(59);
        c.due("today", x.at(1, 2), 0);
        x.pass(1);
        c.due("59 again", x.at(1, 2), 59);
        go(x, 9999);
        c.due("beyond 9999: DAY 10019", x.at(1, 2), 20);
        x.row(0, 3, 2);
        c.due("on none", x.at(1, 2), -5);
    }

    private static void bricks() {
        WitnessPays x = street(0, 0, "");
        c.due("nobody SEES it: no more WALLS", x.at(6, 3), 0);
        c.due("one stands there", x.at(0, 3), -5);
        x.walls(4095);
        c.due("behind all WALLS", x.at(1, 3), 0);
        c.due("one stands between WALLS", x.at(0, 3), -5);
        x.walls(0);
        x.leave(0, true);
        c.due("a GONE one stands there", x.at(0, 3), 0);
        WitnessPays y = street(0, 11, "");
        c.due("bit 11 alone", y.at(0, 3), 1 << 11);
        c.due("bit 0 rather than 11", y.at(1, 3), 1);
        y.walls(1 << 11);
        c.due("the WALL is there", y.at(0, 3), 0);
        y.walls(0);
        y.one(0, 0, 1);
        c.due("bits 0 and 11", y.at(0, 3), 1 << 11 | 1);
        y.walls(1);
        c.due("bit 11, as 0 is there", y.at(0, 3), 1 << 11);
        y.walls(1 << 11);
        c.due("bit 0, as 11 is there", y.at(0, 3), 1);
        WitnessPays z = street(0, 10, "");
        z.one(0, 0, 0);
        c.due("bits 10 and 11", z.at(11, 3), 1 << 11 | 1 << 10);
        WitnessPays all = street(0, 6, "far 9" + ALL);
        c.due("both ways to 0: the least of all pairs", all.at(0, 3), 1 << 6 | 1);
        c.due("both ways to 7: the least pair", all.at(7, 3), 1 << 6 | 1);
        all.walls(1 << 8);
        c.due("one way is closed: one WALL, the least", all.at(0, 3), 1);
    }

    private static void shun() {
        WitnessPays x = street(0, 5, "");
        c.due("all alike: the first", x.of(0, 7), 0);
        x.walls(1 << 10 | 1 << 11);
        c.due("the last", x.of(0, 7), 11);
        x.walls(1 << 0 | 1 << 1 | 1 << 5 | 1 << 6);
        c.due("the first of two", x.of(0, 7), 1);
        x.walls(4095);
        c.due("1 from everywhere", x.of(0, 7), 0);
        x.leave(0, true);
        x.walls(1 << 10 | 1 << 11);
        c.due("GONE", x.of(0, 7), 0);
        c.due("by the REACH there", street(0, 5, "near 1 a=11").of(0, 7), 11);
        c.due("by the REACH there, the first of two", street(0, 5, "near 1 a=11|a=3").of(0, 7), 3);
    }

    private static void alone() {
        WitnessPays x = street(0, 11, "near 2 p=0");
        x.one(0, 0, 5);
        c.due("the last place", x.of(0, 8), 11);
        c.due("the first of five", x.of(1, 8), 3);
        x.set(1, 0, 10);
        c.due("another SEES it, too", x.of(0, 8), -5);
        c.due("the first but not that", x.of(1, 8), 0);
        x.leave(1, true);
        c.due("a GONE one SEES nothing alone", x.of(1, 8), -5);
        c.due("nor anything beside another", x.of(0, 8), 11);
        for (int i = 2; i < 6; i++) {
            x.one(0, 0, i == 5 ? 6 : 1);
        }
        c.due("the sixth", x.of(5, 8), 4);
        c.due("four at one place", x.of(4, 8), -5);
    }

    /** DAYS n (0 .. 20) from now; rows: 5 at most. */
    private static void seen() {
        WitnessPays x = street(1, 0, "near 2" + ALL);
        x.set(0, 0, 11);
        c.due("no rows are not false", x.wrong(), -5);
        x.see(11, 0, 1);
        x.see(11, 20, 1);
        c.due("today, and in 20 DAYS", x.wrong(), -5);
        x.see(0, 0, 0);
        x.see(10, 0, 0);
        x.see(11, 1, 0);
        c.due("the last of five rows", x.wrong(), 4);
        x.set(0, 0, 0);
        c.due("the first of several", x.wrong(), 0);
        WitnessPays y = new WitnessPays();
        y.one(1, 1, 0);
        Check.enact(y, "near 2" + ALL);
        y.see(8, 20, 1);
        c.due("20 DAYS farther: 8", y.wrong(), -5);
        y.see(7, 20, 1);
        c.due("not 7", y.wrong(), 1);
        go(y, 9999);
        y.set(0, 0, 0);
        c.due("beyond 9999", y.wrong(), 1);
        WitnessPays z = new WitnessPays();
        for (int i = 0; i < 6; i++) {
            z.one(0, 0, 0);
        }
        z.see(0, 0, 63);
        c.due("all six", z.wrong(), -5);
        z.leave(5, true);
        c.due("five", z.wrong(), 0);
    }

    private static void from() {
        WitnessPays x = street(0, 4, "near 2" + ALL);
        c.due("no rows: from everywhere", x.from(0), 4095);
        x.see(0, 0, 1);
        c.due("from 0", x.from(0), 1);
        x.see(11, 0, 1);
        c.due("from none", x.from(0), 0);
        x.see(-1, 0, 0);
        x.see(11, 20, 1);
        c.due("from 11", x.from(0), 1 << 11);
        x.see(11, 20, 1 | 1 << 5);
        c.due("as far as that one goes", x.from(0), 1 << 11);
        WitnessPays y = new WitnessPays();
        y.one(4, 1, 0);
        go(y, 9999);
        y.see(0, 1, 1);
        c.due("a THIEF SEES again on DAY 10000, 1 farther to the right", y.from(0), 0b111000000011);
        y.see(0, 2, 1);
        c.due("and 0 alone on DAY 10001, 2 farther", y.from(0), 1 << 10);
    }

    private static void can() {
        WitnessPays x = street(0, 0, "far 3 v=9");
        c.due("no rows: all ten", x.can(0, 0), 10);
        c.due("the least is 0", x.can(0, 1), 0);
        x.see(5, 0, 1);
        c.due("9 alone", x.can(0, 0), 1);
        c.due("it is the least", x.can(0, 1), 9);
        Check.enact(x, "far 3 v=0");
        c.due("0 alone", x.can(0, 0), 1);
        c.due("it is the least", x.can(0, 1), 0);
        Check.enact(x, "far 3 v>9");
        c.due("none", x.can(0, 0), 0);
        c.due("no least", x.can(0, 1), -5);
        x.see(-1, 0, 0);
        x.see(5, 0, 1 << 5);
        c.due("as far as that one goes: all ten", x.can(0, 0), 10);
        WitnessPays y = new WitnessPays();
        y.one(1, 5, 0);
        go(y, 9999);
        y.set(0, 0, 0);
        y.see(0, 20, 1);
        y.see(6, 20, 0);
        c.due("20 DAYS of 0 places: 0, 3, 6, 9", y.can(0, 0), 4);
        y.see(-1, 0, 0);
        y.see(8, 20, 1);
        y.see(5, 20, 0);
        c.due("20 DAYS of 1 place: 8; of 2: 4", y.can(0, 0), 3);
        c.due("the least", y.can(0, 1), 1);
    }

    private static void odds() {
        WitnessPays x = street(0, 0, "");
        for (int many = 1; many <= 6; many++) {
            c.due("one of " + many + " SEES it: above", x.odds(0, 0), 1);
            c.due("one of " + many + " SEES it: below", x.odds(0, 1), many);
            c.due("nobody SEES it: above", x.odds(3, 0), 1);
            c.due("nobody SEES it: below", x.odds(3, 1), 1);
            if (many < 6) {
                x.one(2, 0, 5);
            }
        }
        c.due("five SEE it: above", x.odds(5, 0), 0);
        c.due("five SEE it: below", x.odds(5, 1), 1);
        for (int i = 0; i < 5; i++) {
            x.leave(i, true);
        }
        c.due("one is left, and may be GONE, too: above", x.odds(6, 0), 1);
        c.due("below", x.odds(6, 1), 6);
        x.leave(5, true);
        c.due("all are GONE: above", x.odds(11, 0), 1);
        c.due("below", x.odds(11, 1), 1);
    }

    private static void mean() {
        dueMean("nobody", new WitnessPays(), 0, 1);
        dueMean("a whole number", street(0, 0, "far 9" + ALL), 20, 1);
        dueMean("one of twelve", street(0, 0, "near 2" + ALL + ";fine 1"), 1, 12);
        dueMean("five of twelve", street(0, 0, "fine 1"), 5, 12);
        dueMean("ten of twelve", street(0, 0, "fine 2"), 5, 6);
        dueMean("nothing", street(0, 0, "fine 0"), 0, 1);
        WitnessPays x = street(0, 0, "far 9" + ALL + ";fine 99");
        dueMean("the PURSE is one for each of the 12", x, 99, 1);
        x.set(0, 1, 0);
        dueMean("an empty PURSE", x, 0, 1);
    }

    private static void dueMean(String what, WitnessPays x, int above, int below) {
        c.due("MEAN above, " + what, x.mean(0), above);
        c.due("MEAN below, " + what, x.mean(1), below);
    }

    private static void plan() {
        WitnessPays x = new WitnessPays();
        c.due("an empty PLAN of nobody", x.ends(0), 0);
        c.due("all are unseen", x.ends(1), 12);
        for (int i = 0; i < 6; i++) {
            x.one(0, 0, 11);
            x.set(i, 1, 9999);
        }
        c.due("the fullest PURSES", x.ends(0), 59994);
        c.due("an empty PLAN", x.ends(1), 7);
        x.walls(1 << 11);
        x.plan(2, 11);
        c.due("a WALL that there was is none any more", x.ends(1), 7);
        x.plan(2, 11);
        c.due("and is again", x.ends(1), 9);
        for (int i = 0; i < 6; i++) {
            x.plan(3, i);
        }
        c.due("all are GONE", x.ends(1), 12);
        x.plan(3, 5);
        c.due("one is GONE already", x.ends(1), 12);
        x.plan(1, 11);
        c.due("a DEED nobody SEES, row 10", x.ends(0), 59994);
        c.due("rows", x.count(3), 10);
        eachPlanRowIsOneThing();
        WitnessPays y = street(0, 0, "");
        for (int i = 0; i < 10; i++) {
            y.plan(1, i % 2 == 0 ? 0 : 10);
        }
        c.due("ten DEEDS, the PURSE for five", y.ends(0), 0);
        y.set(0, 1, 9999);
        c.due("ten DEEDS", y.ends(0), 9799);
        WitnessPays z = street(4, 0, "near 1 d=0");
        go(z, 9999);
        c.due("on DAY 9999, a THIEF", z.ends(1), 11);
        z.plan(0, 0);
        c.due("on DAY 10000", z.ends(1), 9);
        z.plan(0, 0);
        c.due("on DAY 10001", z.ends(1), 11);
    }

    /** With as many PEOPLE as there may be, n could mean any thing. */
    private static void eachPlanRowIsOneThing() {
        int[][] due = {{600, 7}, {580, 7}, {600, 9}, {600, 7}};
        for (int what = 0; what <= 3; what++) {
            for (int n = 0; n < 6; n++) {
                WitnessPays x = new WitnessPays();
                for (int i = 0; i < 6; i++) {
                    x.one(0, 1, n);
                }
                x.plan(what, n);
                c.due("ends(0) of plan(" + what + ", " + n + ")", x.ends(0), due[what][0]);
                c.due("ends(1) of plan(" + what + ", " + n + ")", x.ends(1), due[what][1]);
                x.plan(1, n);
                c.due("PURSES behind a DEED", x.ends(0), due[what][0] - 20);
                for (int i = 0; i < 5; i++) {
                    x.leave((n + 1 + i) % 6, true);
                }
                c.due("that one alone", x.ends(1), what == 3 ? 12 : due[what][1]);
            }
        }
    }

    private static void book() {
        WitnessPays x = street(0, 0, "");
        c.due("an empty BOOK", x.looked(), -5);
        for (int i = 0; i < 7; i++) {
            x.book(0, 100);
        }
        c.due("seven rows are so", x.looked(), -5);
        x.book(0, 101);
        c.due("the eighth is not", x.looked(), 7);
        x.set(0, 1, 101);
        c.due("the first is not", x.looked(), 0);
        x.book(-1, 0);
        x.book(0, 0);
        c.due("0 is told", x.looked(), 0);
        x.set(0, 1, 0);
        c.due("0 it is", x.looked(), -5);
        x.set(0, 1, 9999);
        x.book(-1, 0);
        x.book(0, 9999);
        c.due("9999 it is", x.looked(), -5);
    }

    /** x wraps, whatever is done with it. */
    private static void acts() {
        int most = Integer.MAX_VALUE;
        int least = Integer.MIN_VALUE;
        c.due("10: x + i", acted(0, 0, 0, most), least);
        c.due("11: looks(x) - v", acted(0, 9, 1, most), most - 8);
        c.due("12: swears(x) * 2", acted(0, 0, 2, 1 << 30), 2 + least);
        c.due("20: ^ 6", acted(1, 0, 1, most), least ^ 6);
        c.due("30: x * 3", acted(2, 0, 0, 1 << 30), (3 << 30) + 1);
        c.due("40: + swears(1)", acted(3, 0, 2, (1 << 30) - 1), least + 2);
        c.due("50: -super.looks(x)", acted(4, 0, 0, most), least);
        c.due("51: x + 1", acted(4, 0, 1, most), most ^ 6);
        c.due("60: x - i", acted(5, 0, 2, least), 2 * (1 + 3 * most));
        c.due("70: + super.looks(2)", acted(6, 0, 1, most - 1), least + 2);
        c.due("71: ^ v", acted(6, 9, 0, most), least + 9);
        WitnessPays x = street(6, 0, "");
        c.due("no act: no body", x.trace(0), -1);
        x.act(0, 2, 0);
        c.due("the longest TRACE", x.count(6), 12);
        c.due("its last", x.trace(11), 10);
        c.due("no more", x.trace(12), -1);
        x.act(0, 0, 0);
        c.due("the latest act's alone", x.trace(2), -1);
    }

    private static int acted(int kind, int v, int act, int n) {
        WitnessPays x = new WitnessPays();
        x.one(0, 0, 0);
        x.one(kind, v, 0);
        return x.act(1, act, n);
    }

    private static void image() {
        WitnessPays x = new WitnessPays();
        x.image();
        for (int i = 0; i < 6; i++) {
            c.due("one comes", x.one(i, i, i), i);
        }
        x.walls(4095);
        x.pass(60);
        Check.enact(x, "fine 1");
        c.due("an IMAGE of nobody", x.undo(), 0);
        c.due("no WALLS", x.told(2), 0);
        c.due("DAY 0", x.told(0), 0);
        c.due("no LAW holds", x.told(1), 20);
        c.due("but one there is", x.count(1), 1);
        for (int i = 0; i < 6; i++) {
            c.due("one comes again", x.one(6 - i, 0, 0), i);
        }
        c.due("of six", x.image(), 6);
        c.due("none more", x.one(0, 0, 0), -4);
        x.leave(5, true);
        c.due("six", x.undo(), 6);
        c.due("not GONE", x.of(5, 4), 0);
        x.leave(0, true);
        c.due("a newer IMAGE", x.image(), 6);
        x.leave(0, false);
        x.undo();
        c.due("holds the newer", x.of(0, 4), 1);
        x.undo();
        c.due("and goes on to", x.of(0, 4), 1);
    }

    // ---- 3

    /** -5: none; 100 and how many, if the row ends ahead of that, or the place is below 0, or the TAPE holds nothing. */
    private static void judged() {
        WitnessPays x = new WitnessPays();
        for (int n = 0; n <= 11; n++) {
            x.tape(0, 0, n);
            c.due("nobody, a row of " + n, x.judge(0, 0), 100 + n);
        }
        x.tape(0, 0, 12);
        c.due("a row of 12", x.judge(0, 0), -5);
        c.due("from 1 on", x.judge(0, 1), 111);
        c.due("from 11 on", x.judge(0, 11), 101);
        c.due("from 12 on", x.judge(0, 12), 100);
        c.due("from 13 on", x.judge(0, 13), 100);
        c.due("from -1 on", x.judge(0, -1), 100);
        x.item(0, 11, 1);
        c.due("the last is otherwise", x.judge(0, 0), 11);
        c.due("the last of the row, but PLACE 0", x.judge(0, 11), 0);
        x.one(0, 0, 11);
        Check.enact(x, "near 2" + ALL);
        c.due("it is so", x.judge(0, 0), -5);
        x.item(0, 0, 1);
        c.due("the first is otherwise", x.judge(0, 0), 0);
        x.tape(0, 0, 60);
        x.item(0, 59, 1);
        c.due("the end of the longest row", x.judge(0, 48), -5);
        c.due("one farther", x.judge(0, 49), 10);
        c.due("the last of the longest row", x.judge(0, 59), 0);
        x.tape(0, -1, 0);
        c.due("holds nothing", x.judge(0, 0), 100);
        c.due("holds nothing, from -1 on", x.judge(0, -1), 100);
    }
}
