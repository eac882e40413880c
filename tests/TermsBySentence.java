/** The "Terms" of the document, sentence by sentence: each boundary that one names, by the promise where it is seen. */
public final class TermsBySentence {
    private static final Sentences DOC = Sentences.ofTerms();

    private static void says(int promise, String words) { DOC.says(promise, words); }
    private static void due(String what, int got, int want) { DOC.due(what, got, want); }
    private static void due(String what, boolean got, boolean want) { DOC.due(what, got, want); }
    private static int law(GustHome x, String t) { return Texts.law(x, t); }
    private static int law(String t) { return Texts.law(new GustHome(), t); }
    private static int rules(GustHome x, String t) { return Texts.rules(x, t); }
    private static int rules(String t) { return Texts.rules(new GustHome(), t); }
    private static int table(GustHome x, int w, String t) { return Texts.table(x, w, t); }
    private static int table(String t) { return Texts.table(new GustHome(), 0, t); }
    private static String times(int n, String t, String between) { return Texts.times(n, t, between); }
    private static void put(GustHome x, int... bytes) { Texts.put(x, bytes); }

    public static void main(String[] args) {
        gustsAndWards();
        lawForm();
        lawAmounts();
        conditions();
        reckoning();
        letters();
        refused();
        lawFaults();
        ruleTexts();
        timetables();
        lessonsAndQuarrels();
        winterAndFood();
        toysAndWhistles();
        illness();
        endOfMonth();
        triedAndHoused();
        winds();
        homesAndLessons();
        houses();
        escaped();
        nursedAndRound();
        addedUp();
        keptAndChecked();
        refusedCalls();
        DOC.end();
    }

    // ---- who there is ----

    private static GustHome oneGust(int strength) {
        GustHome x = new GustHome();
        x.gust(0, strength, 4, 2, 1);
        return x;
    }

    private static void gustsAndWards() {
        says(2, "GUSTS 0 to 11: told or not;");
        DOC.taken("gust", 0, 11, g -> new GustHome().gust(g, 1, 1, 1, 1));
        due("none is told", new GustHome().count(3), 0);
        due("one that is not told", oneGust(1).gustIs(1, 0), -1);
        says(2, "STRENGTH (0 to 99)");
        DOC.taken("strength", 0, 99, s -> new GustHome().gust(0, s, 1, 1, 1));
        due("99", oneGust(99).gustIs(0, 0), 99);
        due("0", oneGust(0).gustIs(0, 0), 0);
        says(3, "a QUARTER (0 to 7; none till it is NAMED)");
        DOC.taken("quarter", 0, 7, q -> oneGust(1).name(0, q));
        due("not named", oneGust(1).gustIs(0, 1), -2);
        GustHome x = oneGust(1);
        x.name(0, 8);
        due("wrongly named", x.gustIs(0, 1), -2);
        x.name(0, 0);
        due("quarter 0 is one", x.gustIs(0, 1), 0);
        says(2, "TEMPER (0 to 9)");
        DOC.taken("temper", 0, 9, t -> new GustHome().gust(0, 1, t, 1, 1));
        says(2, "a WARD (0 to 5)");
        DOC.taken("ward", 0, 5, w -> new GustHome().gust(0, 1, 1, w, 1));
        says(2, "a GALE (0 to 9) it comes from");
        DOC.taken("gale", 0, 9, a -> new GustHome().gust(0, 1, 1, 1, a));
        says(5, "HABITS (0 to 9, as bits)");
        DOC.taken("habit", 0, 9, h -> oneGust(1).habit(0, h, true));
        for (int h = 0; h < 10; h++) x.habit(0, h, true);
        due("all ten", x.gustIs(0, 5), 1023);
        wardsAndNurses();
    }

    private static void wardsAndNurses() {
        says(6, "WARDS 0 to 5: ROOM (0 to 9; 9 at first)");
        DOC.taken("ward", 0, 5, w -> new GustHome().ward(w, 1, 1, 0));
        DOC.taken("room", 0, 9, r -> new GustHome().ward(0, r, 1, 0));
        for (int w = 0; w < 6; w++) due("room of ward " + w, new GustHome().wardIs(w, 0), 9);
        says(6, "DUST with which it is fed (0 to 9; 0 at first)");
        DOC.taken("dust", 0, 9, d -> new GustHome().ward(0, 1, d, 0));
        for (int w = 0; w < 6; w++) due("dust of ward " + w, new GustHome().wardIs(w, 1), 0);
        says(6, "a NURSE or none (at first)");
        DOC.taken("nurse", -1, 4, k -> new GustHome().ward(0, 1, 1, k));
        for (int w = 0; w < 6; w++) due("nurse of ward " + w, new GustHome().wardIs(w, 2), -2);
        says(12, "a TIMETABLE (none at first)");
        for (int w = 0; w < 6; w++) due("months of ward " + w, new GustHome().wardIs(w, 4), 0);
        for (int w = 0; w < 6; w++) due("lesson of ward " + w, new GustHome().wardIs(w, 5), -2);
        says(7, "NURSES 0 to 4: told or not;");
        DOC.taken("nurse", 0, 4, k -> new GustHome().nurse(k, 1));
        due("none is told", new GustHome().count(4), 0);
        due("one that is not told", new GustHome().nurseIs(0, 0), -1);
        says(7, "ASTHMA (0 to 9)");
        DOC.taken("asthma", 0, 9, a -> new GustHome().nurse(0, a));
        says(7, "ILL (MONTHS; 0 at first)");
        GustHome x = new GustHome();
        x.nurse(4, 9);
        due("ill", x.nurseIs(4, 1), 0);
        says(37, "THE MONTH, TOYS that are broken, WHISTLES (0 at first each).");
        for (int k = 0; k < 3; k++) due("count(" + k + ")", new GustHome().count(k), 0);
    }

    // ---- the law ----

    private static void lawForm() {
        says(10, "THE LAW: a TEXT of at most 240 bytes, no blanks (none at first)");
        due("240 bytes", law("f" + times(116, "1+", "") + "12(1=1)"), 1);
        due("241 bytes", law("f" + times(116, "1+", "") + "123(1=1)"), -1);
        GustHome often = oneGust(40);
        for (int k = 0; k < 5; k++) law(often, "b" + times(116, "0+", "") + "1" + k + "(1=1)");
        due("240 bytes five times over", often.tried(1, 1), 14);
        String[] blanks = {" f1(1=1)", "f 1(1=1)", "f1 (1=1)", "f1( 1=1)", "f1(1 =1)", "f1(1= 1)", "f1(1=1 )", "f1(1=1) ", "f1(1=1); x(1=1)"};
        int[] places = {0, 1, 2, 3, 4, 5, 6, 7, 8};
        for (int k = 0; k < blanks.length; k++) due("blank in " + blanks[k], law(blanks[k]), -1000 - places[k]);
        due("none at first", new GustHome().count(5), 0);
        says(10, "CLAUSES (16 at most) with a ; (59) between two:");
        due("one", law("x(1=1)"), 1);
        due("16", law(times(16, "x(1=1)", ";")), 16);
        due("17", law(times(17, "x(1=1)", ";")), -4112);
        due("none between two", law("x(1=1)x(1=1)"), -1006);
        due("two between two", law("x(1=1);;x(1=1)"), -1007);
        due("one ahead of the first", law(";x(1=1)"), -1000);
        due("one behind the last", law("x(1=1);"), -1007);
        due("a : between two", law("x(1=1):x(1=1)"), -1006);
        says(10, "a letter, E, and (C), of e, x (C) alone:");
        for (char c : "fgbi".toCharArray()) {
            due(c + " with E", law(c + "1(1=1)"), 1);
            due(c + " without E", law(c + "(1=1)"), -1001);
            due(c + " without C", law(c + "1"), -1002);
        }
        for (char c : "ex".toCharArray()) {
            due(c + " alone", law(c + "(1=1)"), 1);
            due(c + " with E", law(c + "1(1=1)"), -1001);
        }
        due("another letter", law("a1(1=1)"), -1000);
        due("a great letter", law("F1(1=1)"), -1000);
    }

    /** What f makes of strength 40 in a month; ward 2 has dust and a nurse. */
    private static int fed(String e) {
        GustHome x = oneGust(40);
        x.ward(2, 9, 1, 0);
        x.nurse(0, 0);
        law(x, "f" + e + "(1=1)");
        return x.tried(1, 10) - 40;
    }
    private static int weakened(String e) {
        GustHome x = oneGust(40);
        law(x, "g" + e + "(1=1)");
        return 40 - x.tried(1, 10);
    }
    private static int broken(String e) {
        GustHome x = oneGust(40);
        law(x, "b" + e + "(1=1)");
        return x.tried(1, 1);
    }
    private static int tenths(String e) {
        GustHome x = oneGust(40);
        x.nurse(0, 0);
        law(x, "i" + e + "(1=1)");
        return x.nursed(1, 4, 20);
    }
    /** Whether a C holds, by a toy that one gust breaks. */
    private static int asks(String c) {
        GustHome x = oneGust(40);
        if (law(x, "b1(" + c + ")") != 1) return -99;
        return x.tried(1, 1);
    }

    private static void lawAmounts() {
        String[] e = {"0-99999", "0-1", "0", "1", "20", "21", "99999"};
        int[] to20 = {0, 0, 0, 1, 20, 20, 20};
        says(10, "f by how much feeding strengthens (0 to 20)");
        for (int k = 0; k < e.length; k++) due("f" + e[k], fed(e[k]), to20[k]);
        says(10, "g by how much a winter month weakens (0 to 20)");
        for (int k = 0; k < e.length; k++) due("g" + e[k], weakened(e[k]), to20[k]);
        says(10, "b TOYS one breaks in a MONTH (0 to 20)");
        for (int k = 0; k < e.length; k++) due("b" + e[k], broken(e[k]), to20[k]);
        says(10, "i tenths that a NURSE falls ill (0 to 10)");
        String[] i = {"0-1", "0", "1", "10", "11", "99999"};
        int[] to10 = {0, 0, 1, 10, 10, 10};
        for (int k = 0; k < i.length; k++) due("i" + i[k], tenths(i[k]), to10[k]);
        says(10, "e one learns a lesson, x two GUSTS quarrel (of e, x any will do;");
        String[] laws = {"b1(1=1)", "e(1=2);x(1=2)", "e(1=1);x(1=1)", "e(1=2);x(1=2);e(1=1);x(1=1)", "e(1=1);x(1=1);e(1=2);x(1=2)", "e(1/0=0);x(1/0=0);x(1=1);e(1=1)"};
        int[] holds = {0, 0, 1, 1, 1, 1};
        for (int k = 0; k < laws.length; k++) {
            GustHome x = oneGust(40);
            x.gust(1, 40, 4, 3, 1);
            x.ward(2, 9, 0, 0);
            x.nurse(0, 0);
            table(x, 2, "A");
            law(x, laws[k]);
            due("learns by " + laws[k], x.tried(1, 0), holds[k]);
            due("quarrels by " + laws[k], x.quarrel(0, 1), holds[k]);
        }
        says(10, "without one of them none does)");
        GustHome x = furnished(true);
        due("quarrels without a law", x.quarrel(3, 8), 0);
        due("learns without a law", x.tried(1, 0), 0);
        law(x, "x(1=1)");
        due("learns without an e", x.tried(1, 0), 0);
        law(x, "e(1=1)");
        due("quarrels without an x", x.quarrel(3, 8), 0);
        says(10, "of the first CLAUSE of f, g, b, i whose C holds the E");
        toysBy("b3(1=2);b4(1=1);b5(1=1)", 4);
        toysBy("b3(1=1);b4(1=1)", 3);
        toysBy("f9(1=1);g9(1=1);i9(1=1);b7(1=1)", 7);
        toysBy(times(15, "b3(1=2)", ";") + ";b5(1=1)", 5);
        says(10, "(beyond its bounds the bound; none: 0).");
        toysBy("b99(1=1);b4(1=1)", 20);
        toysBy("b0-9(1=1);b4(1=1)", 0);
        toysBy("b3(1=2)", 0);
        toysBy("f3(1=1)", 0);
        due("toys without a law", oneGust(40).tried(1, 1), 0);
    }
    private static void toysBy(String law, int toys) {
        GustHome x = oneGust(40);
        law(x, law);
        due("toys by " + law, x.tried(1, 1), toys);
    }

    private static void conditions() {
        says(10, "C: PARTS with a | between two, one of which must hold;");
        due("the last of 58", asks(times(57, "1=2", "|") + "|1=1"), 1);
        due("none of 58", asks(times(58, "1=2", "|")), 0);
        due("the first", asks("1=1|1=2"), 1);
        due("nothing behind a |", law("x(1=1|)"), -1006);
        due("nothing ahead of a |", law("x(|1=1)"), -1002);
        due("two |", law("x(1=1||1=1)"), -1006);
        says(10, "a PART: TESTS with an & between two, all of which must;");
        due("all of 58", asks(times(58, "1=1", "&")), 1);
        due("all but the last of 58", asks(times(57, "1=1", "&") + "&1=2"), 0);
        due("& ahead of |", asks("1=1|1=1&1=2"), 1);
        due("& ahead of |", asks("1=2&1=1|1=1"), 1);
        due("nothing behind an &", law("x(1=1&)"), -1006);
        due("nothing ahead of an &", law("x(&1=1)"), -1002);
        says(10, "a TEST: !TEST, (C), or E, one of < > =, and E.");
        String[] c = {"1<2", "2<2", "3<2", "1>2", "2>2", "3>2", "1=2", "2=2", "!2=2", "!!2=2", "!1<2", "!3>2", "!2<2", "!2>2", "!1=2&1=2", "(1=2|2=2)&2=2",
            "(1=2)", "!(1=2|2=2)", "!(1=2)&!(1=2)"};
        int[] holds = {1, 0, 0, 0, 0, 1, 0, 1, 0, 1, 0, 0, 1, 1, 0, 1, 0, 0, 1};
        for (int k = 0; k < c.length; k++) due(c[k], asks(c[k]), holds[k]);
        String[] wrong = {"x()", "x(!)", "x(1)", "x(1=)", "x(=1)", "x(1<=1)", "x(1=1=1)", "x((1=1)=1)", "x(1=!1)", "x(!(1=1)!(1=1))", "x((1=1)"};
        int[] places = {2, 3, 3, 4, 2, 4, 5, 7, 4, 8, 7};
        for (int k = 0; k < wrong.length; k++) due(wrong[k], law(wrong[k]), -1000 - places[k]);
    }

    private static void reckoning() {
        says(10, "E: TERMS with + or - between two;");
        due("1+2-3+4", broken("1+2-3+4"), 4);
        due("nothing behind a +", law("b1+(1=1)"), -1003);
        due("a - ahead", law("b-1(1=1)"), -1001);
        due("as many as fit into 240 bytes", asks("1" + times(114, "-1", "") + "=0-113"), 1);
        says(10, "a TERM: FACTORS with one of * / % between two;");
        due("2*3*3", broken("2*3*3"), 18);
        due("17/3", broken("17/3"), 5);
        due("7/1", broken("7/1"), 7);
        due("7%1", broken("7%1"), 0);
        due("17%6", broken("17%6"), 5);
        due("+ behind *", broken("2+3*4"), 14);
        due("- behind /", broken("9-8/4"), 7);
        due("nothing behind a *", law("b1*(1=1)"), -1003);
        due("two *", law("b1**1(1=1)"), -1003);
        says(10, "from the left on;");
        due("20-8-7", broken("20-8-7"), 5);
        due("16/4*2", broken("16/4*2"), 8);
        due("16*3/5", broken("16*3/5"), 9);
        due("17%10*2", broken("17%10*2"), 14);
        due("100/7%4", broken("100/7%4"), 2);
        says(10, "a FACTOR: [E], a number of one to five digits, or a letter:");
        due("[2+3]*4", broken("[2+3]*4"), 20);
        due("one digit", broken("9"), 9);
        due("five digits", asks("99999=9*11111"), 1);
        due("five naughts", asks("00000=0"), 1);
        due("00007", broken("00007"), 7);
        due("six digits", law("b000007(1=1)"), -2006);
        due("[]", law("b[](1=1)"), -1002);
        due("[1", law("b[1(1=1)"), -1003);
        due("1]", law("b1](1=1)"), -1002);
        due("a ( is no factor", law("b(1)(1=1)"), -1001);
        due("two numbers", law("b1[2](1=1)"), -1002);
        due("a letter behind a number", law("b1s(1=1)"), -1002);
        due("a letter behind a letter", law("bss(1=1)"), -1002);
        for (char k : "bcefgijkrxySQTM".toCharArray()) due("no letter " + k, law("b" + k + "(1=1)"), -1001);
        for (char k : "sqthdwoplanvuzm".toCharArray()) due("letter " + k, law("b" + k + "(1=1)"), 1);
        says(10, "All is reckoned with 32 bits, as the machine does;");
        due("65536*65536", asks("65536*65536=0"), 1);
        due("2147483647+1", asks("65536*32767+65535+1=65536*32768"), 1);
        due("below 0 then", asks("65536*32767+65535+1<0"), 1);
        due("the lowest - 1", asks("65536*32768-1=65536*32767+65535"), 1);
        due("the lowest / -1", asks("65536*32768/[0-1]=65536*32768"), 1);
        due("the lowest % -1", asks("65536*32768%[0-1]=0"), 1);
        due("-7/2", asks("[0-7]/2=0-3"), 1);
        due("-7%2", asks("[0-7]%2=0-1"), 1);
        due("7%-2", asks("7%[0-2]=1"), 1);
        due("99999*99999", asks("99999*99999=14098*10000*10+65409"), 1);
    }

    // ---- the letters ----

    /** Gust 3 in ward 4, with nurse 2 and a lesson 7, in month 0, and gust 8 beside it if two are asked for. */
    private static GustHome furnished(boolean two) {
        GustHome x = new GustHome();
        x.gust(3, 17, 6, 4, 1);
        x.name(3, 5);
        x.habit(3, 2, true);
        x.habit(3, 9, true);
        x.ward(4, 9, 7, 2);
        x.nurse(2, 8);
        table(x, 4, "H");
        if (two) x.gust(8, 23, 1, 4, 1);
        return x;
    }
    /** Whether a C holds of gust 3, or of ward 4, in a clause of that letter; r: in a rule. */
    private static int holdsIn(GustHome x, char where, String c) {
        int read = where == 'r' ? rules(x, "(" + c + ")") : law(x, where + (where == 'e' || where == 'x' ? "(" : "1(") + c + ")");
        if (read != 1) return -99;
        switch (where) {
            case 'f': return x.tried(1, 13) - 17;
            case 'g': return 17 - x.tried(1, 13);
            case 'b': return x.tried(1, 1);
            case 'e': return x.tried(1, 0);
            case 'x': return x.quarrel(3, 8);
            case 'i': return x.nursed(4, 16, 20);
            default: return x.wardIs(4, 6) == -2 ? 1 : 0;
        }
    }
    private static void toldIn(String where, String c) {
        for (char k : where.toCharArray()) due(c + " in " + k, holdsIn(furnished(k == 'x'), k, c), 1);
    }

    private static void letters() {
        says(10, "s STRENGTH, q the QUARTER (8: none), t TEMPER, h how many HABITS, d the DUST of its WARD, "
            + "w its WARD (of a GUST, in f, g, b, e, x; w in i and in rules, too)");
        for (String c : new String[] {"s=17", "q=5", "t=6", "h=2", "d=7"}) toldIn("fgbex", c);
        toldIn("fgbexir", "w=4");
        for (int w = 0; w < 6; w++) {
            GustHome x = new GustHome();
            x.gust(0, 1, 1, w, 1);
            x.ward(w, 9, 9 - w, -1);
            law(x, "bd+1(w=" + w + ")");
            due("d and w of ward " + w, x.tried(1, 1), 10 - w);
        }
        for (int none : new int[] {0, 1}) {
            GustHome x = oneGust(0);
            if (none == 0) x.name(0, 7);
            law(x, "bq(1=1)");
            due("q of quarter 7, of none", x.tried(1, 1), 7 + none);
        }
        GustHome most = oneGust(99);
        for (int h = 0; h < 10; h++) most.habit(0, h, true);
        law(most, "bh(s=99)");
        due("h of all habits", most.tried(1, 1), 10);
        says(10, "o the STRENGTH of the other one, p its QUARTER (in x)");
        toldIn("x", "s=17&o=23&p=8");
        toldIn("x", "s=23&o=17&p=5");
        says(10, "l the lesson (in e)");
        toldIn("e", "l=7");
        for (int l = 0; l < 10; l++) {
            GustHome x = furnished(false);
            x.gust(3, 17, 6, 4, 1);
            table(x, 4, String.valueOf((char) ('A' + l)));
            due("l of lesson " + l, holdsIn(x, 'e', "l=" + l), 1);
        }
        says(10, "a the ASTHMA, n how many GUSTS are in the WARD (in i, in rules)");
        toldIn("ir", "a=8&n=1");
        for (int w = 0; w < 6; w++) {
            GustHome y = new GustHome();
            y.gust(0, 1, 1, w, 1);
            y.nurse(4, 9);
            y.ward(w, 9, 0, 4);
            rules(y, "(w=" + w + "&a=9&n=1|!w=" + w + "&a=0&n=0)");
            for (int k = 0; k < 6; k++) due("a and n of ward " + k + " in rules", y.wardIs(k, 6), -2);
        }
        for (char k : "ir".toCharArray()) due("n of two in " + k, holdsIn(furnished(true), k, "n=2"), 1);
        GustHome x = furnished(true);
        for (int g = 0; g < 12; g++) x.gust(g, 1, 1, 4, 1);
        for (char k : "ir".toCharArray()) due("n of twelve in " + k, holdsIn(x, k, "n=12"), 1);
        x.ward(4, 9, 7, -1);
        due("a without a nurse, in rules", holdsIn(x, 'r', "a=0"), 1);
        x.ward(4, 9, 7, 3);
        due("a of a nurse that is not told, in rules", holdsIn(x, 'r', "a=0"), 1);
        lettersOfRules();
    }

    private static void lettersOfRules() {
        says(11, "v their STRENGTH together, u TOYS, z WHISTLES (in rules)");
        GustHome x = furnished(true);
        due("v", holdsIn(x, 'r', "v=40&u=0&z=0"), 1);
        law(x, "b9(s=17);x(1=1)");
        x.months(1);
        due("v, u, z after a month", holdsIn(x, 'r', "v=40&u=9&z=1"), 1);
        due("v of an empty ward", rules(x, "(v=0|w=4)"), 1);
        due("v of an empty ward", x.wardIs(0, 6), -2);
        says(10, "m THE MONTH through 12 (what is left; in all).");
        int[] months = {0, 1, 11, 12, 13, 25};
        int[] left = {0, 1, 11, 0, 1, 1};
        for (int k = 0; k < months.length; k++) {
            for (char c : "fgbexir".toCharArray()) {
                x = furnished(c == 'x');
                if (months[k] > 0) x.months(months[k]);
                due("m in " + c + " in month " + months[k], holdsIn(x, c, "m=" + left[k]), 1);
            }
        }
        says(10, "(Where they are not told they are 0.)");
        String of = "o=0&p=0&a=0&n=0&v=0&u=0&z=0";
        for (char c : "fgb".toCharArray()) due("others in " + c, holdsIn(furnished(false), c, of + "&l=0"), 1);
        due("others in e", holdsIn(furnished(false), 'e', of), 1);
        due("others in x", holdsIn(furnished(true), 'x', "l=0&a=0&n=0&v=0&u=0&z=0"), 1);
        due("others in i", holdsIn(furnished(false), 'i', "s=0&q=0&t=0&h=0&d=0&o=0&p=0&l=0&v=0&u=0&z=0"), 1);
        due("others in rules", holdsIn(furnished(false), 'r', "s=0&q=0&t=0&h=0&d=0&o=0&p=0&l=0"), 1);
        for (char c : "fgbexi".toCharArray()) {
            x = furnished(true);
            law(x, "b1(1=1);x(1=1)");
            x.months(1);
            due("u, v, z in " + c + " after toys and whistles", holdsIn(x, c, "u=0&v=0&z=0"), c == 'b' || c == 'e' ? 2 : 1);
        }
    }

    private static void refused() {
        says(10, "what is divided by 0 is REFUSED: then a C does not hold,");
        String[] c = {"1/0=0", "1%0=0", "!1/0=0", "!(1/0=0)", "1/0=0|1=1", "(1/0=0)|1=1", "1=1&0/0=0", "1=1/0", "1<1/[s-40]|1=1"};
        for (String k : c) due("C " + k, asks(k), 0);
        GustHome x = oneGust(40);
        law(x, "b3(1/0=0);b4(1=1)");
        due("the C of the next clause", x.tried(1, 1), 4);
        rules(x, "(1=1);(1%0=0)");
        due("a rule", x.wardIs(0, 6), 1);
        says(10, "an E is 0.");
        String[] e = {"7/0", "7%0", "0/0", "7+1/0", "7+0*[1/0]", "7/[s-40]", "1/0+7", "7%[t-4]"};
        for (String k : e) due("E " + k, broken(k), 0);
        toysBy("b1/0(1=1);b4(1=1)", 0);
        says(10, "Of a C as much is asked, from the left, as matters.");
        String[] asked = {"1=1|1/0=0", "1=2&1/0=0|1=1", "(1=1|1/0=0)&2=2", "!(1=2&1/0=0)", "1=1&1=2&1/0=0|2=2", "1=2|1=1|1/0=0", "!(1=1|1/0=0)|1=1", "1=2&(1/0=0|1=1)|1=1"};
        for (String k : asked) due("C " + k, asks(k), 1);
        String[] all = {"1=2|1/0=0", "1=1&1/0=0|1=1", "1/0=0|1=1", "(1=2|1/0=0)|1=1", "1=2&1=1|1/0=0|1=1"};
        for (String k : all) due("C " + k, asks(k), 0);
    }

    // ---- faults ----

    private static void lawFaults() {
        says(10, "FAULTS, the first from the left:");
        due("1 ahead of 2", law("f1(1=1);f(999999=1)"), -1009);
        due("2 ahead of 1", law("f999999(1=1);y"), -2006);
        due("5 ahead of 2", law("x((((((([999999]=1)))))))"), -5007);
        due("2 ahead of 4", law(times(15, "x(1=1)", ";") + ";x(111111=1);x(1=1)"), -2112);
        says(10, "from the left: 1 what can't stand there (the end, too);");
        String whole = "f[1+s]*2(!(1<2)&3=3|4>5);x(6=6)";
        for (int n = 1; n < whole.length(); n++) {
            boolean fine = n == whole.indexOf(';');
            due("the end behind " + n, law(whole.substring(0, n)), fine ? 1 : -1000 - n);
        }
        due("whole", law(whole), 2);
        for (int n = 1; n < whole.length(); n++) {
            GustHome x = new GustHome();
            Texts.put(x, whole);
            due("the end behind " + n + ", though the tape goes on", x.law(n), n == whole.indexOf(';') ? 1 : -1000 - n);
        }
        due("0", law("f1(1=1)\u0000"), -1007);
        due("255", law("f\u00ff(1=1)"), -1001);
        due("128 + s", law("f\u00f3(1=1)"), -1001);
        due("10", law("\nf1(1=1)"), -1000);
        says(10, "2 a sixth digit, at it;");
        due("five", law("f12345(1=1)"), 1);
        due("six", law("f123456(1=1)"), -2006);
        due("seven", law("f1234567(1=1)"), -2006);
        due("at the end", law("x(1=123456"), -2009);
        due("naughts", law("x(000000=0)"), -2007);
        due("five and five", law("x(12345+12345=1)"), 1);
        says(10, "4 a 17th CLAUSE, at its letter (if that can stand there);");
        String full = times(16, "e(1=1)", ";") + ";";
        for (char c : "fgbiex".toCharArray()) due("letter " + c, law(full + c), -4112);
        for (char c : "(;a 1".toCharArray()) due("no letter " + c, law(full + c), -1112);
        due("the end", law(full), -1112);
        due("wrong behind it", law(full + "x;"), -4112);
        says(10, "5 a seventh of ( [ ! that are open in one another, at it");
        String[] six = {"x(!(!([1]=1)))", "x(!([[[1]]]=1))", "x(!(1=1)&((((1=1)))))", "x(((((!1=1)))))", "x(1=1&(((([1]=1)))))"};
        for (String t : six) due(t, law(t), 1);
        String[] seven = {"x(!(!([[1]]=1)))", "x(!([[[[1]]]]=1))", "x(((((!!1=1)))))", "x(1=1&((((([1]=1))))))"};
        int[] places = {7, 7, 7, 11};
        for (int k = 0; k < seven.length; k++) due(seven[k], law(seven[k]), -5000 - places[k]);
        due("one behind the other", law("f" + times(7, "[1]", "+") + "(" + times(7, "(1=1)", "&") + ")"), 1);
        due("what can't stand there is 1", law("x([[[[[("), -1007);
        due("what can't stand there is 1", law("x(!!!!!)"), -1007);
        openSigns();
    }

    private static void openSigns() {
        says(10, "(the ( of the CLAUSE counts;");
        due("five ( in it", law("x((((((1=1))))))"), 1);
        due("six ( in it", law("x(((((((1=1)))))))"), -5007);
        due("five [ in it", law("x([[[[[1]]]]]=1)"), 1);
        due("six [ in it", law("x([[[[[[1]]]]]]=1)"), -5007);
        due("five [ on the right", law("x(1=[[[[[1]]]]])"), 1);
        due("six [ on the right", law("x(1=[[[[[[1]]]]]])"), -5009);
        says(10, "a ! is open till its TEST ends;");
        due("five !", law("x(!!!!!1=1)"), 1);
        due("six !", law("x(!!!!!!1=1)"), -5007);
        due("five ! in each test", law("x(!!!!!1=1&!!!!!1=1|!!!!!1=1)"), 1);
        due("five !, then five others", law("x(!!!!!1=1&(((((1=1)))))&[[[[[1]]]]]=[[[[[1]]]]])"), 1);
        due("open in the E on the left", law("x(!!!!![1]=1)"), -5007);
        due("open in the E on the right", law("x(!!!!!1=[1])"), -5009);
        due("open in the (C)", law("x(!!!!!(1=1))"), -5007);
        due("open till the ) of its (C)", law("x(!(1=1&[[[[1]]]]=1))"), -5011);
        says(10, "the E of a CLAUSE stands ahead of it).");
        due("six [ in it", law("f[[[[[[1]]]]]](1=1)"), 1);
        due("seven [ in it", law("f[[[[[[[1]]]]]]](1=1)"), -5007);
        due("six [ in it, six ( behind", law("f[[[[[[1]]]]]]((((((1=1))))))"), 1);
        due("six [ in it, seven ( behind", law("f[[[[[[1]]]]]](((((((1=1)))))))"), -5020);
    }

    private static void ruleTexts() {
        says(11, "RULES: a TEXT likewise (none at first):");
        due("none at first", new GustHome().count(6), 0);
        due("240 bytes", rules("(" + times(117, "1+", "") + "10<9)"), 1);
        due("241 bytes", rules("(" + times(117, "1+", "") + "100<9)"), -1);
        GustHome often = new GustHome();
        for (int k = 0; k < 5; k++) rules(often, "(" + times(117, "0+", "") + "1" + k + "<" + (9 - k) + ")");
        due("240 bytes five times over, which does not hold", often.wardIs(0, 6), 0);
        for (int k = 0; k < 5; k++) rules(often, "(" + times(117, "0+", "") + "1" + k + ">" + (9 - k) + ")");
        due("240 bytes five times over, which holds", often.wardIs(0, 6), -2);
        due("a blank", rules("(1=1) "), -1005);
        says(11, "(C), 12 at most, with a ; between two:");
        due("one", rules("(1=1)"), 1);
        due("12", rules(times(12, "(1=1)", ";")), 12);
        due("13", rules(times(13, "(1=1)", ";")), -4072);
        due("no ;", rules("(1=1)(1=1)"), -1005);
        due("two ;", rules("(1=1);;(1=1)"), -1006);
        due("a letter ahead", rules("x(1=1)"), -1000);
        due("no brackets", rules("1=1"), -1000);
        says(11, "each must hold in each WARD at the end of each MONTH.");
        GustHome x = new GustHome();
        rules(x, "(w<5)");
        due("in the last ward", x.tried(1, 6), 5);
        rules(x, "(w>0)");
        due("in the first ward", x.tried(1, 6), 0);
        rules(x, "(!m=2)");
        due("in months 0, 1", x.tried(2, 4), 0);
        due("in months 0, 1, 2", x.tried(3, 4), 1);
        due("in each month", x.tried(60, 4), 5);
        says(11, "FAULTS as above, but 4 a 13th RULE, at its (.");
        String full = times(12, "(1=1)", ";") + ";";
        due("( and the end", rules(full + "("), -4072);
        due("no (", rules(full + "x(1=1)"), -1072);
        due("the end", rules(full), -1072);
        due("a sixth digit", rules("(1=111111)"), -2008);
        due("six open", rules("((((((1=1))))))"), 1);
        due("seven open", rules("(((((((1=1)))))))"), -5006);
        due("six !", rules("(!!!!!!1=1)"), -5006);
        String whole = "(!(1<2)&3=3|4>[5]);(6=6)";
        for (int n = 1; n < whole.length(); n++) {
            boolean fine = n == whole.indexOf(';');
            due("the end behind " + n, rules(whole.substring(0, n)), fine ? 1 : -1000 - n);
            x = new GustHome();
            Texts.put(x, whole);
            due("the end behind " + n + ", though the tape goes on", x.rules(n), fine ? 1 : -1000 - n);
        }
    }

    /** The lessons of a timetable through so many months. */
    private static String lessons(String t, int months) {
        GustHome x = new GustHome();
        if (table(x, 0, t) < 0) return "a fault";
        StringBuilder s = new StringBuilder();
        for (int k = 0; k < months; k++) {
            int l = x.wardIs(0, 5);
            s.append(l == -2 ? '.' : (char) ('A' + l));
            x.months(1);
        }
        return s.toString();
    }

    private static void timetables() {
        says(12, "A TIMETABLE: a TEXT of at most 60 bytes:");
        due("one byte", table("A"), 1);
        due("60 bytes", table(times(12, "(AAA)", "")), 36);
        due("61 bytes", table(times(12, "(AAA)", "") + "A"), -1);
        says(12, "MONTHS one behind the other: a letter A to J (a lesson, 0 to 9), or a dot, 46 (none),");
        DOC.same("A to J and a dot", lessons("ABCDEFGHIJ.", 11), "ABCDEFGHIJ.");
        for (char c : "@Kaj-/,".toCharArray()) due("no month " + c, table(String.valueOf(c)), -1000);
        says(12, "ahead of each perhaps a digit 2 to 9 (so many times);");
        DOC.same("2A3.9B", lessons("2A3.9B", 14), "AA...BBBBBBBBB");
        for (char c : "01:".toCharArray()) due("no digit " + c, table(c + "A"), -1000);
        due("two digits", table("22A"), -1001);
        due("a digit alone", table("2"), -1001);
        due("a digit at the end", table("A9"), -1002);
        due("a digit ahead of )", table("(A2)"), -1003);
        says(12, "(MONTHS) likewise (one at least).");
        DOC.same("(A)", lessons("(A)B", 2), "AB");
        DOC.same("2(A.)B", lessons("2(A.)B", 5), "A.A.B");
        DOC.same("within one another", lessons("2(A2(B2C))D", 15), "ABCCBCCABCCBCCD");
        due("none in there", table("()"), -1001);
        due("none in there, behind a digit", table("A2()"), -1003);
        says(12, "48 at most in all;");
        due("48 by digits", table("9A9A9A9A9A3A"), 48);
        due("48 by brackets", table("6(8A)"), 48);
        due("48 by letters", table(times(48, "A", "")), 48);
        due("49 by letters", table(times(49, "A", "")), -6048);
        due("48 and one more", table("6(8A)."), -6005);
        due("9(9(9A))", table("9(9(9A))"), -6002);
        says(12, "over and over, from the first on when it is told.");
        DOC.same("over and over", lessons("AB.", 10), "AB.AB.AB.A");
        DOC.same("one over and over", lessons("A", 3), "AAA");
        String most = times(47, "A", "") + "B";
        DOC.same("48 over and over", lessons(most, 49), most + "A");
        GustHome x = new GustHome();
        table(x, 3, "ABC");
        x.months(1);
        due("the second", x.wardIs(3, 5), 1);
        table(x, 3, "ABC");
        due("told again", x.wardIs(3, 5), 0);
        x.months(2);
        table(x, 3, "AK");
        due("told with a fault: it goes on", x.wardIs(3, 5), 2);
        timetableFaults();
    }

    private static void timetableFaults() {
        says(12, "FAULTS: 1 what can't stand there (the end, too);");
        String whole = "A2(B3(C.)D)E";
        for (int n = 1; n < whole.length(); n++) {
            boolean fine = n == 1 || n == 11;
            int months = n == 1 ? 1 : 17;
            due("the end behind " + n, table(whole.substring(0, n)), fine ? months : -1000 - n);
            GustHome x = new GustHome();
            Texts.put(x, whole);
            due("the end behind " + n + ", though the tape goes on", x.timetable(0, n), fine ? months : -1000 - n);
        }
        due("whole", table(whole), 18);
        String[] wrong = {")", "A)", "(A))", "A B", "A;", "A\u0000", "\u00c1", "(A2"};
        int[] places = {0, 1, 3, 1, 1, 1, 0, 3};
        for (int k = 0; k < wrong.length; k++) due(wrong[k], table(wrong[k]), -1000 - places[k]);
        says(12, "5 a third ( that is open in another one, at it;");
        due("two", table("((A))"), 1);
        due("two and two", table("((A)(B))((C))"), 3);
        due("three", table("(((A)))"), -5002);
        due("three with digits", table("2(2(2(A)))"), -5005);
        due("the third of two", table("((A)(B(C)))"), -5006);
        due("at the end", table("((("), -5002);
        says(12, "6 more than 48, at the first byte of what (or its digit) by which they are");
        due("a letter", table("9A9A9A9A9A3BC"), -6012);
        due("a dot", table("9A9A9A9A9A3B."), -6012);
        due("a digit", table("9A9A9A9A9A4B"), -6010);
        due("a (", table("9A9A9A9A9A(BCDE)"), -6014);
        due("the digit of a (", table("A9(6B)"), -6001);
        says(12, "(asked when it ends;");
        due("a digit and the end", table("9A9A9A9A9A4"), -1011);
        due("a digit and no month", table("9A9A9A9A9A4K"), -1011);
        due("brackets that do not end", table("A9(6B"), -1005);
        due("brackets that end", table("A9(6B)"), -6001);
        says(12, "of an inner one first).");
        due("an inner one", table("2(9A9A9A9A9A9A)"), -6012);
        due("an inner one in brackets", table("3(A7(7B))"), -6003);
        due("of both the inner one", table("9(9A9A9A9A9A9A9A"), -6012);
    }

    // ---- a month ----

    private static void lessonsAndQuarrels() {
        says(8, "A lesson NEEDS told HABITS (as bits; none at first) ahead of it.");
        for (int l = 0; l < 10; l++) due("needs of " + l, new GustHome().count(20 + l), 0);
        DOC.taken("bits for lesson 9", 0, 511, b -> new GustHome().needs(9, b));
        due("bits 1023 - 1 for lesson 0", new GustHome().needs(0, 1022), true);
        due("bits 1024 for lesson 0", new GustHome().needs(0, 1024), false);
        GustHome x = furnished(false);
        law(x, "e(1=1)");
        x.needs(7, 4);
        due("it has habit 2", x.tried(1, 0), 1);
        x.needs(7, 5);
        due("it has not habit 0", x.tried(1, 0), 0);
        x.needs(7, 0);
        due("it needs nothing more", x.tried(1, 0), 1);
        says(18, "A GUST QUARRELS with another one if x holds, one way or the other.");
        x = furnished(true);
        law(x, "x(s=17)");
        due("one way", x.quarrel(3, 8), 1);
        due("the other way", x.quarrel(8, 3), 1);
        law(x, "x(s=40)");
        due("neither way", x.quarrel(3, 8), 0);
        law(x, "x(s=17&o=17|s=23&o=23)");
        due("not with itself", x.quarrel(3, 8), 0);
    }

    private static void winterAndFood() {
        says(13, "A MONTH: (1) in MONTHS 11, 0, 1 (through 12): each GUST, by numbers, is weaker by g (0 at least).");
        GustHome x = oneGust(90);
        x.gust(11, 7, 0, 5, 0);
        law(x, "g3(1=1)");
        int due = 90;
        for (int month = 0; month < 27; month++) {
            x.months(1);
            due -= month % 12 == 11 || month % 12 < 2 ? 3 : 0;
            due("strength after month " + month, x.gustIs(0, 0), due);
        }
        says(13, "is weaker by g (0 at least).");
        due("7 less 3 often", x.gustIs(11, 0), 0);
        x = oneGust(3);
        law(x, "g3(1=1)");
        due("3 less 3", x.tried(1, 10), 0);
        law(x, "g4(1=1)");
        due("3 less 4", x.tried(1, 10), 0);
        says(13, "(2) WARDS, by numbers: one without a told NURSE that is not ILL is neither fed nor taught");
        String[] who = {"no nurse", "one not told", "one that is ill", "one that is well"};
        for (int k = 0; k < 4; k++) {
            x = wardWith(k);
            due(who[k] + ": learnt", x.months(1), k == 3 ? 1 : 0);
            due(who[k] + ": strength", x.gustIs(0, 0), k == 3 ? 42 : 40);
        }
        says(13, "(its TIMETABLE goes on all the same).");
        for (int k = 0; k < 4; k++) {
            x = wardWith(k);
            x.months(1);
            due(who[k] + ": the next lesson", x.wardIs(2, 5), 1);
        }
        foodAndLessons();
    }

    /** Ward 2 with a gust, food and lessons, and 0 no nurse, 1 one that is not told, 2 one that is ill, 3 one that is well. */
    private static GustHome wardWith(int nurse) {
        GustHome x = oneGust(40);
        x.ward(2, 9, 1, nurse == 0 ? -1 : 1);
        if (nurse > 1) x.nurse(1, 0);
        if (nurse == 2) makeIll(x, 1);
        table(x, 2, "AB");
        law(x, "f2(1=1);e(1=1)");
        return x;
    }

    /** Nurse k of ward 2 falls ill there in a month; its gust stays as it was. */
    private static void makeIll(GustHome x, int k) {
        law(x, "i10(1=1)");
        x.months(1);
        due("nurse " + k + " is ill", x.nurseIs(k, 1) > 0, true);
    }

    private static void foodAndLessons() {
        says(13, "Else, with DUST above 0, its GUSTS, by numbers, are stronger by f (99 at most);");
        int[] dust = {0, 1, 9};
        int[] strength = {40, 44, 44};
        for (int k = 0; k < 3; k++) {
            GustHome x = oneGust(40);
            x.gust(1, 96, 0, 2, 0);
            x.gust(2, 95, 0, 2, 0);
            x.gust(3, 99, 0, 2, 0);
            x.gust(4, 40, 0, 3, 0);
            x.nurse(0, 0);
            x.ward(2, 9, dust[k], 0);
            law(x, "f4(1=1)");
            due("dust " + dust[k], x.tried(1, 10), strength[k]);
            due("dust " + dust[k] + ", 96", x.tried(1, 11), k == 0 ? 96 : 99);
            due("dust " + dust[k] + ", 95", x.tried(1, 12), k == 0 ? 95 : 99);
            due("dust " + dust[k] + ", 99", x.tried(1, 13), 99);
            due("another ward", x.tried(1, 14), 40);
        }
        says(13, "then, if its TIMETABLE has a lesson, each of its GUSTS that has not that HABIT, but those that it NEEDS, learns it if e holds.");
        GustHome x = oneGust(40);
        for (int g = 1; g < 5; g++) x.gust(g, 40 + g, 0, 2, 0);
        x.gust(5, 40, 0, 3, 0);
        x.nurse(0, 0);
        x.ward(2, 9, 0, 0);
        x.needs(1, 1 | 512);
        for (int g = 0; g < 6; g++) {
            if (g != 1) x.habit(g, 0, true);
            if (g != 2) x.habit(g, 9, true);
            if (g == 3) x.habit(g, 1, true);
        }
        law(x, "e(!s=44)");
        table(x, 2, ".B");
        due("none in this month", x.months(1), 0);
        due("one that lacks it, has what it needs, and may", x.months(1), 1);
        int[] habits = {1 | 2 | 512, 512, 1, 1 | 2 | 512, 1 | 512, 1 | 512};
        for (int g = 0; g < 6; g++) due("habits of " + g, x.gustIs(g, 5), habits[g]);
        x = oneGust(40);
        x.nurse(0, 0);
        x.ward(2, 9, 1, 0);
        law(x, "f5(1=1);e(s=45);g9(1=2)");
        table(x, 2, "J");
        due("taught behind fed", x.tried(1, 0), 1);
    }

    private static void toysAndWhistles() {
        says(13, "(3) GUSTS, by numbers: TOYS more by b.");
        GustHome x = oneGust(40);
        x.gust(11, 1, 9, 5, 0);
        law(x, "bt(1=1)");
        x.months(1);
        due("toys", x.count(1), 13);
        x.months(2);
        due("toys", x.count(1), 39);
        x = oneGust(40);
        x.nurse(0, 0);
        x.ward(2, 9, 1, 0);
        law(x, "f5(1=1);b2(s=45)");
        due("behind food", x.tried(1, 1), 2);
        law(x, "b2(t=4);x(1=1)");
        x.gust(1, 1, 4, 2, 0);
        due("ahead of quarrels", x.tried(1, 1), 4);
        says(13, "(4) Each two GUSTS in one WARD, by numbers (each two asked when they come): if they QUARREL, a WHISTLE more, TEMPER of both one more (9 at most).");
        x = new GustHome();
        int[] temper = {0, 7, 8, 9};
        for (int g = 0; g < 4; g++) x.gust(g, 10 * g, temper[g], g < 3 ? 0 : 1, 0);
        law(x, "x(1=1)");
        x.months(1);
        due("three twos in ward 0", x.count(2), 3);
        says(13, "TEMPER of both one more (9 at most).");
        int[] then = {2, 9, 9, 9};
        for (int g = 0; g < 4; g++) due("temper of " + g, x.gustIs(g, 2), then[g]);
        says(13, "(each two asked when they come)");
        x = new GustHome();
        for (int g = 0; g < 3; g++) x.gust(g, 10 * g, 0, 0, 0);
        law(x, "x(s=0&o=10);x(s=10&o=20&t=1);x(s=20&o=0&t=1)");
        x.months(1);
        due("0 and 1, then 1 and 2 by it, not 0 and 2", x.count(2), 2);
        says(13, "(4) Each two GUSTS in one WARD, by numbers");
        x = new GustHome();
        for (int g = 0; g < 12; g++) x.gust(g, g, 0, 5, 0);
        law(x, "x(1=1)");
        x.months(1);
        due("66 twos of twelve", x.count(2), 66);
        due("eleven quarrels of one", x.gustIs(0, 2), 9);
    }

    private static void illness() {
        says(13, "(5) NURSES that were ILL when the MONTH began: a MONTH less.");
        GustHome x = oneGust(40);
        x.ward(2, 9, 0, 0);
        x.nurse(0, 3);
        makeIll(x, 0);
        int[] ill = {3, 2, 1, 4};
        due("in the month in which it falls ill: none less", x.nurseIs(0, 1), 4);
        for (int k = 0; k < ill.length; k++) {
            x.months(1);
            due("after month " + (k + 1), x.nurseIs(0, 1), ill[k]);
        }
        x.ward(2, 9, 0, -1);
        x.months(1);
        due("in no ward", x.nurseIs(0, 1), 3);
        x.months(3);
        due("well", x.nurseIs(0, 1), 0);
        x.months(1);
        due("well stays well", x.nurseIs(0, 1), 0);
        says(13, "(6) Each WARD, by numbers, that has a told NURSE that is not ILL, and a GUST: a DRAW:");
        drawsOf("a nurse and a gust", 1, 0, 0, true);
        drawsOf("no nurse", 0, -1, 0, true);
        drawsOf("a nurse that is not told", 0, 4, 0, true);
        drawsOf("no gust", 0, 0, 0, false);
        drawsOf("a nurse in two wards with gusts", 2, 0, 1, true);
        x = oneGust(40);
        x.gust(1, 40, 4, 3, 1);
        x.ward(2, 9, 0, 0);
        x.ward(3, 9, 0, 0);
        x.nurse(0, 3);
        law(x, "i10(w=2)");
        x.months(1);
        due("ill by the first ward: one draw", x.count(8), 39022);
        x.months(1);
        due("ill: none", x.count(8), 39022);
        says(13, "below i the NURSE is ILL for its ASTHMA and 1 MONTHS.");
        // the next draws of 25, 12, 1, 0 are 0, 1, 2, 9
        int[] seeds = {25, 25, 12, 12, 1, 1, 0, 0};
        int[] tenths = {0, 1, 1, 2, 2, 3, 9, 10};
        int[] asthma = {0, 0, 1, 9, 5, 5, 9, 9};
        for (int k = 0; k < seeds.length; k++) {
            x = oneGust(40);
            x.ward(2, 9, 0, 3);
            x.nurse(3, asthma[k]);
            x.seed(seeds[k]);
            law(x, "i" + tenths[k] + "(1=1)");
            x.months(1);
            due("seed " + seeds[k] + ", tenths " + tenths[k], x.nurseIs(3, 1), k % 2 == 0 ? 0 : asthma[k] + 1);
        }
    }

    /** How many draws a month makes, by the X behind it. */
    private static void drawsOf(String what, int draws, int nurse, int also, boolean gust) {
        GustHome x = new GustHome();
        if (gust) x.gust(0, 40, 4, 2, 1);
        x.nurse(0, 3);
        x.ward(2, 9, 0, nurse);
        if (also > 0) {
            x.gust(1, 40, 4, 3, 1);
            x.ward(3, 9, 0, nurse);
        }
        x.months(1);
        due(what, x.count(8), new int[] {1, 39022, 61087}[draws]);
    }

    private static void endOfMonth() {
        says(13, "(7) RULES: the first (by numbers, then WARDS) that does not hold.");
        GustHome x = new GustHome();
        rules(x, "(w<6);(w<4);(w>0)");
        due("the lowest rule", x.tried(1, 5), 1);
        due("its lowest ward", x.tried(1, 6), 4);
        x = oneGust(40);
        law(x, "b1(1=1);g2(1=1)");
        rules(x, "(u=0)");
        due("toys of this month are seen", x.tried(1, 4), 1);
        rules(x, "(w<2|v=38|w>2)");
        due("strength of this month is seen", x.tried(1, 4), 0);
        rules(x, "(m=0)");
        due("the month that goes by", x.tried(1, 4), 0);
        due("the month that goes by", x.tried(2, 4), 1);
        says(13, "THE MONTH is one more (9999 at most: then none goes by).");
        x = oneGust(40);
        law(x, "b1(1=1)");
        x.months(1);
        due("one more", x.count(0), 1);
        for (int k = 0; k < 166; k++) x.months(60);
        x.months(37);
        due("month", x.count(0), 9998);
        due("one can go by", x.tried(60, 1), 1);
        x.months(60);
        due("9999", x.count(0), 9999);
        due("toys", x.count(1), 9999);
        due("none goes by", x.months(60), 0);
        due("9999 still", x.count(0), 9999);
        due("no more toys", x.count(1), 9999);
        says(13, "DRAWS: X = (25173 X + 13849) modulo 65536 (X is THE SEED at first, 1): X modulo 10.");
        due("X at first", new GustHome().count(8), 1);
        int[] seeds = {0, 1, 65535, 39022};
        int[] next = {13849, 39022, 54212, 61087};
        for (int k = 0; k < seeds.length; k++) {
            x = oneGust(40);
            x.ward(2, 9, 0, 3);
            x.nurse(3, 1);
            x.seed(seeds[k]);
            x.months(1);
            due("X behind " + seeds[k], x.count(8), next[k]);
        }
    }

    // ---- plans ----

    private static GustHome gusts(int... strength) {
        GustHome x = new GustHome();
        for (int g = 0; g < strength.length; g++) x.gust(g, strength[g], 0, 0, g % 10);
        return x;
    }

    private static void triedAndHoused() {
        says(14, "TRIED are n MONTHS by the DRAWS that will come (nothing is changed).");
        GustHome x = furnished(true);
        law(x, "f2(1=1);g1(1=1);b1(1=1);i5(1=1);e(1=1);x(1=1)");
        rules(x, "(u<30)");
        String before = Texts.seen(x);
        x.tried(60, 0);
        DOC.same("all", Texts.seen(x), before);
        int ill = x.tried(7, 3), strength = x.tried(7, 13), learnt = x.tried(7, 0);
        due("learnt as tried", x.months(7), learnt);
        due("strength as tried", x.gustIs(3, 0), strength);
        due("some fell ill", ill > 0, true);
        says(19, "HOUSED: 1 to 6 GUSTS in 1 to 3 WARDS, no more of these than ROOM in each (others aside):");
        x = gusts(0, 1, 2, 3, 4, 5, 6);
        int[] many = {0, 1, 63, 127};
        int[] found = {-1, 0, 0, -1};
        for (int k = 0; k < many.length; k++) due("gusts " + many[k], x.housed(many[k], 1, 20), found[k]);
        int[] wards = {0, 1, 7, 15, 56, 64};
        found = new int[] {-1, 0, 0, -1, 0, -1};
        for (int k = 0; k < wards.length; k++) due("wards " + wards[k], x.housed(1, wards[k], 20), found[k]);
        x.ward(1, 2, 0, -1);
        x.ward(2, 0, 0, -1);
        due("as many as there is room, seven others aside in ward 0", x.housed(3, 2, 20), 0);
        due("one more than there is room", x.housed(7, 2, 20), -2);
        due("no room at all", x.housed(1, 4, 20), -2);
        due("two in 1, none in 2", x.housed(3, 6, 1), 1);
        due("three in 1 and 2", x.housed(7, 6, 20), -2);
        for (int g = 3; g < 7; g++) x.moves(g, 1);
        due("others in that ward aside", x.housed(3, 2, 20), 0);
        says(19, "so that the fewest twos that QUARREL are in one WARD (asked as they are now);");
        x = gusts(0, 1, 2, 3, 4, 5);
        law(x, "x(w=0)");
        due("all fifteen", x.housed(63, 1, 20), 15);
        due("all fifteen in another ward, as they are now", x.housed(63, 2, 20), 15);
        due("three and three", x.housed(63, 3, 20), 6);
        due("two, two, two", x.housed(63, 7, 20), 3);
        law(x, "x(w=1)");
        due("none as they are now", x.housed(63, 2, 20), 0);
        says(19, "of like ones the least row (by GUSTS the place of the WARD).");
        law(x, "x(1=1)");
        int[] row = {1, 1, 3, 3, 5, 5};
        for (int g = 0; g < 6; g++) due("ward of " + g, x.housed(63, 2 | 8 | 32, g), row[g]);
        law(x, "x(1=2)");
        for (int g = 0; g < 6; g++) due("no quarrels: ward of " + g, x.housed(63, 2 | 8 | 32, g), 1);
        x.ward(1, 1, 0, -1);
        due("room 1: ward of 0", x.housed(63, 2 | 8 | 32, 0), 1);
        due("room 1: ward of 1", x.housed(63, 2 | 8 | 32, 1), 3);
    }

    /** Gust g of these strengths, all of a quarter, each of a gale of its own. */
    private static GustHome leavers(int quarter, int... strength) {
        GustHome x = gusts(strength);
        for (int g = 0; g < strength.length; g++) x.name(g, quarter);
        return x;
    }

    private static void winds() {
        says(20, "WINDS 0 to 3: told or not; a QUARTER, a LIMIT (0 to 255).");
        DOC.taken("wind", 0, 3, k -> new GustHome().wind(k, 1, 1));
        DOC.taken("quarter", 0, 7, q -> new GustHome().wind(1, q, 1));
        DOC.taken("limit", 0, 255, l -> new GustHome().wind(1, 1, l));
        due("none told", new GustHome().count(9), 0);
        due("none told: it stays", leavers(0, 0).leaving(1, 0), 4);
        says(21, "LET GO: 1 to 6 GUSTS: each goes with a WIND whose QUARTER is its own, or beside it (0 and 7 are beside each other), or stays;");
        for (int q = 0; q < 8; q++) {
            for (int w = 0; w < 8; w++) {
                GustHome x = leavers(q, 5);
                x.wind(2, w, 9);
                int apart = Math.min(Math.abs(q - w), 8 - Math.abs(q - w));
                due("quarter " + q + ", wind " + w, x.leaving(1, 0), apart < 2 ? 2 : 4);
            }
        }
        GustHome x = gusts(5);
        for (int k = 0; k < 4; k++) x.wind(k, 2 * k, 255);
        due("without a quarter", x.leaving(1, 0), 4);
        x = leavers(3, 1, 1, 1, 1, 1, 1, 1);
        x.wind(0, 3, 255);
        due("none", x.leaving(0, 20), -1);
        due("one", x.leaving(64, 20), 1);
        due("six", x.leaving(63, 20), 6);
        due("seven", x.leaving(127, 20), -1);
        says(21, "all that go with one have at most its LIMIT together;");
        x = leavers(3, 0, 60, 40);
        x.wind(0, 3, 0);
        due("strength 0 with limit 0", x.leaving(1, 0), 0);
        due("strength 60 with limit 0", x.leaving(2, 1), 4);
        x.wind(0, 3, 100);
        due("100 in all", x.leaving(7, 20), 3);
        x.wind(0, 3, 99);
        due("one too strong", x.leaving(7, 20), 2);
        galesAndRows();
    }

    private static void galesAndRows() {
        says(21, "two of these of one GALE must go with one WIND, or both stay:");
        GustHome x = leavers(3, 50, 50);
        x.wind(0, 3, 50);
        x.wind(1, 3, 50);
        due("of two gales, each with its wind", x.leaving(3, 20), 2);
        for (int g = 0; g < 2; g++) {
            x.gust(g, 50, 0, 0, 7);
            x.name(g, 3);
        }
        due("of one gale: both stay", x.leaving(3, 20), 0);
        due("one of the gale alone", x.leaving(1, 20), 1);
        x.wind(3, 3, 100);
        due("both with the great one", x.leaving(3, 0), 3);
        due("both with the great one", x.leaving(3, 1), 3);
        x.gust(1, 50, 0, 0, 7);
        due("one has no quarter: both stay", x.leaving(3, 0), 4);
        says(21, "so that most go;");
        x = leavers(3, 99, 1, 1);
        x.wind(2, 3, 99);
        due("two weak ones, not the strong one", x.leaving(7, 20), 2);
        due("the strong one stays", x.leaving(7, 0), 4);
        says(21, "of like ones most STRENGTH;");
        x = leavers(3, 30, 60, 50);
        x.wind(2, 3, 60);
        due("the strongest of three", x.leaving(7, 1), 2);
        due("its strength", x.leaving(7, 21), 60);
        x = leavers(3, 10, 11, 0, 0, 0, 99);
        x.wind(2, 3, 11);
        due("four of six", x.leaving(63, 20), 4);
        due("the stronger one of two", x.leaving(3, 1), 2);
        due("its strength", x.leaving(3, 21), 11);
        x.gust(1, 9, 0, 0, 1);
        x.name(1, 3);
        due("the stronger one of two is the first", x.leaving(3, 0), 2);
        due("its strength", x.leaving(3, 21), 10);
        says(21, "of like ones the least row (by GUSTS the WIND; 4: it stays).");
        x = leavers(3, 60, 60, 60);
        x.wind(2, 3, 60);
        due("of like ones the first", x.leaving(7, 0), 2);
        due("of like ones the first", x.leaving(7, 2), 4);
        x.wind(1, 3, 60);
        due("the lower wind for the first", x.leaving(7, 0), 1);
        due("the next one for the second", x.leaving(7, 1), 2);
        says(22, "Those that are LET GO are told no more.");
        x = leavers(3, 60, 60, 60);
        x.wind(2, 3, 60);
        due("who goes", x.letGo(7), 1);
        due("told", x.count(3), 6);
        due("strength", x.gustIs(0, 0), -1);
        due("named", x.name(0, 1), false);
        due("quarrels", x.quarrel(0, 1), -1);
        due("in the ward", x.wardIs(0, 3), 6);
        due("told again", x.gust(0, 1, 1, 1, 1), true);
        due("no quarter then", x.gustIs(0, 1), -2);
    }

    private static void homesAndLessons() {
        says(23, "HOMES 0 to 9: told or not; HABITS (as bits) that all have who come from there, all others of which they have none.");
        DOC.taken("home", 0, 9, k -> new GustHome().home(k, 1));
        DOC.taken("habits", 0, 1023, h -> new GustHome().home(0, h));
        due("none told", new GustHome().count(10), 0);
        due("none told: none fits", gusts(1).from(0, 0, 0), 0);
        GustHome x = gusts(1);
        x.habit(0, 3, true);
        x.home(0, 8);
        x.home(1, 9);
        x.home(2, 0);
        x.home(9, 1023);
        due("all is asked", x.from(0, 1023, 0), 1);
        due("one it has", x.from(0, 8, 0), 1 | 2 | 512);
        due("one it has not", x.from(0, 1, 0), 1 | 4);
        says(24, "FROM: told HABITS of a GUST (as bits) are asked: HOMES (as bits) that fit;");
        due("nothing asked", x.from(0, 0, 0), 1 | 2 | 4 | 512);
        DOC.none("asked", 0, 1023, a -> gusts(1).from(0, a, 0));
        x.home(0, 0);
        due("none fits", x.from(0, 1023, 0), 0);
        says(24, "if it tells nothing: none).");
        x = gusts(1);
        due("no home", x.from(0, 0, 1), -2);
        x.home(0, 1023);
        due("one home", x.from(0, 0, 1), -2);
        x.home(1, 1023);
        due("two like homes", x.from(0, 0, 1), -2);
        says(24, "which HABIT that was not asked tells most");
        x.home(1, 511);
        due("one habit apart", x.from(0, 0, 1), 9);
        due("that was asked", x.from(0, 512, 1), -2);
        due("all asked", x.from(0, 1023, 1), -2);
        says(24, "(the greater part of HOMES with it, without it is smallest;");
        x.home(0, 7);
        x.home(1, 6);
        x.home(2, 4);
        x.home(3, 0);
        due("1 and 3, 2 and 2, 3 and 1", x.from(0, 0, 1), 1);
        says(24, "of like ones the lowest;");
        x.home(3, 6);
        due("1 and 3, 3 and 1", x.from(0, 0, 1), 0);
        x.home(0, 0);
        for (int k = 1; k < 4; k++) x.home(k, 1023);
        due("ten alike", x.from(0, 0, 1), 0);
        lessonsInOrder();
    }

    private static void lessonsInOrder() {
        says(25, "TAUGHT: HABITS (as bits) that a GUST is to have: the fewest lessons (with those that they NEED),");
        GustHome x = gusts(1);
        DOC.none("habits", 0, 1023, h -> gusts(1).taught(0, h, 20));
        due("none wanted", x.taught(0, 0, 20), 0);
        due("all ten", x.taught(0, 1023, 20), 10);
        x.needs(0, 512);
        x.needs(9, 16);
        due("two, and two that they need", x.taught(0, 9, 20), 4);
        x.habit(0, 9, true);
        due("what it has is needed no more", x.taught(0, 9, 20), 2);
        due("what it has and is to have", x.taught(0, 512, 20), 0);
        x.habit(0, 9, false);
        says(25, "in the order in which each has what it NEEDS, the least row of these;");
        int[] row = {3, 4, 9, 0};
        for (int k = 0; k < 4; k++) due("with needs, place " + k, x.taught(0, 9, k), row[k]);
        for (int k = 0; k < 10; k++) due("without needs, place " + k, gusts(1).taught(0, 1023, k), k);
        says(25, "-2: it can't be (they NEED each other).");
        x.needs(4, 1);
        due("a ring", x.taught(0, 16, 20), -2);
        due("a ring among others", x.taught(0, 1023, 20), -2);
        due("beside the ring", x.taught(0, 1023 & ~(1 | 16 | 512), 20), 7);
        x.habit(0, 0, true);
        due("a ring that is broken by what it has", x.taught(0, 1023, 20), 9);
    }

    private static void houses() {
        says(26, "HOUSES 0 to 4: told or not; a RISE (0 to 99), HABITS (as bits) that are wanted.");
        DOC.taken("house", 0, 4, k -> new GustHome().house(k, 1, 1));
        DOC.taken("rise", 0, 99, r -> new GustHome().house(1, r, 1));
        DOC.taken("habits", 0, 1023, h -> new GustHome().house(1, 1, h));
        due("none told", new GustHome().count(11), 0);
        says(27, "PLACED: 1 to 6 GUSTS: each asks, by its own liking, HOUSES from the highest RISE down (of like ones the lowest first);");
        GustHome x = gusts(9, 8, 7, 6, 5, 4, 3);
        due("no house", x.placed(1, 0), -2);
        int[] rise = {0, 50, 99, 50, 99};
        for (int k = 0; k < 5; k++) x.house(k, rise[k], 0);
        int[] row = {2, 4, 1, 3, 0, -2};
        for (int g = 0; g < 6; g++) due("house of " + g, x.placed(63, g), row[g]);
        due("none", x.placed(0, 0), -1);
        due("one", x.placed(64, 6), 2);
        due("seven", x.placed(127, 0), -1);
        says(27, "a HOUSE likes those best that have most of the HABITS it wants, of like ones the stronger, of like ones the lower number,");
        x = gusts(99, 50, 50, 0);
        x.house(0, 0, 3);
        due("the stronger by one", stronger(50, 51).placed(3, 1), 0);
        due("the stronger by one", stronger(51, 50).placed(3, 0), 0);
        GustHome y = stronger(10, 20);
        y.house(1, 0, 0);
        due("the first gust in the second house", y.placed(3, 0), 1);
        due("the second gust in the first house", y.placed(3, 1), 0);
        for (int by = -1; by < 2; by++) {
            y = stronger(50, 50 + by);
            put(y, 255, 0);
            due("likes 50 rather than " + (50 + by), y.fair(3), by < 1 ? 1 : 0);
            y = stronger(50 + by, 50);
            put(y, 0, 255);
            due("likes 50 rather than a lower one of " + (50 + by), y.fair(3), by < 0 ? 1 : 0);
        }
        due("the strongest", x.placed(15, 0), 0);
        due("of like ones the lower number", x.placed(6, 1), 0);
        due("the weaker one of two", x.placed(10, 3), -2);
        x.habit(3, 0, true);
        due("the one with a habit", x.placed(15, 3), 0);
        x.habit(2, 0, true);
        x.habit(2, 1, true);
        due("the one with two", x.placed(15, 2), 0);
        for (int h = 2; h < 10; h++) x.habit(3, h, true);
        due("habits that are not wanted", x.placed(15, 3), -2);
        says(27, "and keeps the one it likes best of those that have asked: where each is when nobody asks any more");
        x = gusts(10, 20, 30);
        x.house(0, 90, 0);
        x.house(1, 80, 1);
        x.habit(2, 0, true);
        due("kept by the first", x.placed(7, 2), 0);
        due("sent on to the second", x.placed(7, 1), 1);
        x.habit(0, 0, true);
        due("sent on, and kept by the second", x.placed(7, 0), 1);
        says(27, "(a GUST that no HOUSE keeps: nowhere).");
        due("asked both", x.placed(7, 1), -2);
        due("no house", gusts(1).placed(1, 0), -2);
        // house 0 likes 2, 1, 0; house 1 likes 2, 0, 1; each likes house 0 better
        says(28, "FAIR: how many twos (a GUST of these, a told HOUSE) there are of which each would rather have the other one than what it has in a told row of HOUSES");
        twosOf(x, 0, 1, 255, 0);
        twosOf(x, 1, 255, 1, 0);
        twosOf(x, 3, 0, 1, 255);
        twosOf(x, 2, 1, 0, 255);
        says(28, "(what a GUST, a HOUSE has rather than nothing: anything).");
        twosOf(x, 6, 255, 255, 255);
        twosOf(x, 2, 255, 255, 0);
        twosOf(x, 3, 255, 255, 1);
    }
    private static void twosOf(GustHome x, int twos, int... row) {
        put(x, row);
        due("row " + java.util.Arrays.toString(row), x.fair(7), twos);
    }

    /** Two gusts and a house that wants nothing. */
    private static GustHome stronger(int one, int other) {
        GustHome x = gusts(one, other);
        x.house(0, 0, 0);
        return x;
    }

    private static int escape(int n, int speed, int hour, int what, int... bytes) {
        GustHome x = new GustHome();
        put(x, bytes);
        return x.escaped(n, speed, hour, what);
    }

    private static void escaped() {
        says(29, "ESCAPED: a GUST was seen 1 to 8 times: an HOUR (rising), a SPOT from, to (0 to 250);");
        int[] eight = new int[27];
        for (int k = 0; k < 9; k++) {
            eight[3 * k] = 30 * k;
            eight[3 * k + 2] = 250;
        }
        DOC.none("times", 1, 8, n -> escape(n, 1, 1, 0, eight));
        due("0 to 250", escape(1, 0, 7, 1, 7, 0, 250), 250);
        due("250 to 250", escape(1, 0, 7, 0, 7, 250, 250), 250);
        due("0 to 0", escape(1, 0, 7, 1, 7, 0, 0), 0);
        due("to 251", escape(1, 0, 7, 1, 7, 0, 251), -3);
        due("251 to 251", escape(1, 0, 7, 1, 7, 251, 251), -3);
        due("from above to", escape(1, 0, 7, 1, 7, 6, 5), -3);
        due("hours 0 and 1", escape(2, 0, 7, 1, 0, 5, 5, 1, 5, 5), 5);
        due("hours 254 and 255", escape(2, 0, 7, 1, 254, 5, 5, 255, 5, 5), 5);
        due("hours alike", escape(2, 0, 7, 1, 1, 5, 5, 1, 5, 5), -3);
        due("hours falling", escape(2, 0, 7, 1, 1, 5, 5, 0, 5, 5), -3);
        due("the last of eight does not rise", escape(8, 9, 7, 1, 0, 5, 5, 1, 5, 5, 2, 5, 5, 3, 5, 5, 4, 5, 5, 5, 5, 5, 6, 5, 5, 6, 5, 5), -3);
        says(29, "it goes at most so many SPOTS in an HOUR: where it may be in a told HOUR (the lowest, the highest SPOT of 0 to 250);");
        due("three hours later, lowest", escape(1, 5, 13, 0, 10, 100, 110), 85);
        due("three hours later, highest", escape(1, 5, 13, 1, 10, 100, 110), 125);
        due("three hours before, lowest", escape(1, 5, 7, 0, 10, 100, 110), 85);
        due("three hours before, highest", escape(1, 5, 7, 1, 10, 100, 110), 125);
        due("0 just so", escape(1, 50, 12, 0, 10, 100, 110), 0);
        due("0 and not below", escape(1, 51, 12, 0, 10, 100, 110), 0);
        due("250 just so", escape(1, 70, 12, 1, 10, 100, 110), 250);
        due("250 and not above", escape(1, 71, 12, 1, 10, 100, 110), 250);
        due("farthest", escape(1, 99, 255, 1, 0, 100, 110), 250);
        due("speed 0", escape(1, 0, 255, 1, 0, 100, 110), 110);
        due("between two, lowest", escape(2, 2, 15, 0, 10, 100, 110, 20, 112, 130), 102);
        due("between two, highest", escape(2, 2, 15, 1, 10, 100, 110, 20, 112, 130), 120);
        due("at the second, lowest", escape(2, 2, 20, 0, 10, 100, 110, 20, 112, 140), 112);
        due("at the second, highest", escape(2, 2, 20, 1, 10, 100, 110, 20, 112, 140), 130);
        due("far apart, just so", escape(2, 2, 20, 1, 10, 100, 110, 20, 130, 140), 130);
        due("too far apart", escape(2, 2, 20, 1, 10, 100, 110, 20, 131, 140), -2);
        due("too far apart, downwards", escape(2, 2, 20, 1, 10, 100, 110, 20, 50, 79), -2);
        due("just so, downwards", escape(2, 2, 20, 0, 10, 100, 110, 20, 50, 80), 80);
        due("too far in later hours", escape(3, 1, 0, 0, 0, 5, 5, 10, 5, 5, 11, 9, 9), -2);
        says(29, "NETS of a told width with which all of these are covered, the fewest.");
        int[] width = {2, 10, 11, 12, 99};
        int[] nets = {6, 2, 1, 1, 1};
        for (int k = 0; k < width.length; k++) due("eleven spots in nets of " + width[k], escape(1, 0, 0, width[k], 0, 20, 30), nets[k]);
        due("251 spots in nets of 2", escape(1, 0, 0, 2, 0, 0, 250), 126);
        due("251 spots in nets of 99", escape(1, 0, 0, 99, 0, 0, 250), 3);
        due("one spot", escape(1, 0, 0, 2, 0, 250, 250), 1);
    }

    private static void nursedAndRound() {
        says(30, "NURSED: as many told NURSES as WARDS (1 to 5 of 0 to 5), so that i of each in its WARD, added up, is least (asked by n as it is);");
        GustHome x = gusts(1, 1);
        x.moves(1, 5);
        for (int k = 0; k < 5; k++) x.nurse(k, k);
        law(x, "ia*n(1=1)");
        due("none", x.nursed(0, 0, 20), -1);
        due("one", x.nursed(16, 32, 20), 4);
        due("five", x.nursed(31, 31, 20), 0);
        due("five with ward 5", x.nursed(31, 61, 20), 1);
        due("five, and six wards", x.nursed(31, 63, 20), -1);
        due("a sixth nurse", x.nursed(63, 63, 20), -1);
        due("ward 6", x.nursed(1, 64, 20), -1);
        due("not as many", x.nursed(3, 1, 20), -1);
        due("not as many", x.nursed(1, 3, 20), -1);
        due("one not told", new GustHome().nursed(1, 1, 20), -1);
        law(x, "i5+a(1=1)");
        due("10 at most, each", x.nursed(31, 31, 20), 35);
        law(x, "i50(1=1)");
        due("50 at most", x.nursed(31, 31, 20), 50);
        says(30, "of like ones the least row (by WARDS the NURSE).");
        for (int w = 1; w < 6; w++) due("nurse of ward " + w, x.nursed(31, 62, w), w - 1);
        law(x, "i1(w=0&a=0)");
        due("not nurse 0 in ward 0", x.nursed(3, 3, 0), 1);
        due("nurse 0 in ward 1", x.nursed(3, 3, 1), 0);
        due("the lowest but 0 in ward 0", x.nursed(31, 31, 0), 1);
        due("the lowest left in ward 1", x.nursed(31, 31, 1), 0);
        due("the lowest left in ward 4", x.nursed(31, 31, 4), 4);
        says(31, "A ROUND in the yard: 3 to 8 GUSTS in a ring, the lowest first, so that no two beside each other QUARREL: how many such rows; the first one.");
        x = gusts(0, 1, 2, 3, 4, 5, 6, 7, 8);
        int[] many = {3, 7, 255, 511, 510};
        int[] rows = {-1, 2, 5040, -1, 5040};
        for (int k = 0; k < many.length; k++) due("gusts " + many[k], x.round(many[k], 20), rows[k]);
        for (int k = 0; k < 8; k++) due("the first row, place " + k, x.round(510, k), k + 1);
        law(x, "x(s=0&o=1)");
        due("no two beside each other, three", x.round(7, 20), 0);
        due("no two beside each other, four", x.round(15, 20), 2);
        int[] row = {0, 2, 1, 3};
        for (int k = 0; k < 4; k++) due("four, place " + k, x.round(15, k), row[k]);
        law(x, "x(s=0&o=3)");
        due("the last is beside the first", x.round(15, 3), 2);
        x.ward(1, 0, 0, -1);
        due("after another plan", x.housed(15, 6, 0), 2);
        due("the lowest is first", x.round(15, 0), 0);
        law(x, "x(1=1)");
        due("all quarrel", x.round(255, 20), 0);
        due("no first row", x.round(255, 0), -2);
    }

    private static void addedUp() {
        says(32, "ADDED UP: the STRENGTH of GUSTS by QUARTERS: what all have together, each as far east "
            + "(QUARTER 2 wholly, 1 and 3 half, 6 less wholly, 5 and 7 less half), and as far north (0; 1, 7; 4; 3, 5 likewise),");
        int[] east = {0, 4, 8, 4, 0, -4, -8, -4};
        int[] north = {8, 4, 0, -4, -8, -4, 0, 4};
        int[] twelveEast = {0, 588, 1188, 588, 0, -588, -1188, -588};
        for (int q = 0; q < 8; q++) {
            due("east of 8 in " + q, leavers(q, 8).added(6, 0), east[q]);
            due("north of 8 in " + q, leavers(q, 8).added(6, 1), north[q]);
            due("99 twelve times in " + q, twelve(q).added(6, 0), twelveEast[q]);
        }
        says(32, "halves of STRENGTH rounded down for each;");
        int[] strength = {0, 1, 2, 3, 99};
        int[] half = {0, 0, 1, 1, 49};
        for (int k = 0; k < strength.length; k++) {
            due("half of " + strength[k], leavers(1, strength[k]).added(6, 0), half[k]);
            due("less half of " + strength[k], leavers(5, strength[k]).added(6, 0), -half[k]);
            due("less half north of " + strength[k], leavers(3, strength[k]).added(6, 1), -half[k]);
        }
        due("1 and 1 and 1", leavers(1, 1, 1, 1).added(6, 0), 0);
        due("3 and 3", leavers(7, 3, 3).added(6, 0), -2);
        says(32, "those without a QUARTER aside.");
        due("none named", gusts(50, 60).added(6, 1), 0);
        GustHome x = gusts(50, 60);
        x.name(1, 0);
        due("one named", x.added(6, 1), 60);
    }
    private static GustHome twelve(int q) {
        GustHome x = new GustHome();
        for (int g = 0; g < 12; g++) {
            x.gust(g, 99, 0, g % 6, 0);
            x.name(g, q);
        }
        return x;
    }

    // ---- kept ----

    private static void keptAndChecked() {
        says(35, "KEPT: GUSTS, NURSES, places in TIMETABLES, THE MONTH, TOYS, WHISTLES, X;");
        GustHome x = furnished(true);
        law(x, "b1(1=1);x(1=1);i3(1=1);f1(1=1);e(1=1)");
        table(x, 4, "ABC");
        x.months(2);
        String before = Texts.seen(x);
        due("kept", x.keep(), 2);
        x.gust(3, 1, 1, 1, 9);
        x.gust(0, 1, 1, 1, 1);
        x.name(8, 4);
        x.nurse(2, 1);
        x.nurse(3, 1);
        x.seed(9);
        x.months(2);
        due("undone", x.undo(), true);
        DOC.same("all that is kept", Texts.seen(x), before);
        notKept();
        says(35, "UNDONE: as they were KEPT last (a place beyond a newer TIMETABLE: the first one).");
        x = gusts(1);
        due("none kept", x.undo(), false);
        x.keep();
        x.gust(1, 1, 1, 1, 1);
        x.keep();
        x.gust(2, 1, 1, 1, 1);
        x.undo();
        due("the last", x.count(3), 3);
        x.gust(2, 1, 1, 1, 1);
        due("once more", x.undo(), true);
        due("the last still", x.count(3), 3);
        String[] newer = {"ABC", "ABCD", "DEF", "DE", "D"};
        int[] lesson = {2, 2, 5, 3, 3};
        for (int k = 0; k < newer.length; k++) {
            for (int w = 0; w < 6; w++) {
                x = new GustHome();
                table(x, w, "ABC");
                x.months(2);
                x.keep();
                table(x, w, newer[k]);
                x.undo();
                due("place 2 in " + newer[k] + " of ward " + w, x.wardIs(w, 5), lesson[k]);
            }
        }
        x = new GustHome();
        x.keep();
        table(x, 5, "ABC");
        x.months(2);
        x.undo();
        due("kept without one", x.wardIs(5, 5), 0);
        says(36, "CHECK: STRENGTH of GUSTS: right, or the first number that is not so.");
        x = gusts(30, 0, 99);
        int[][] told = {{30, 0, 99}, {31, 0, 99}, {30, 1, 99}, {30, 0, 98}, {29, 1, 0}};
        int[] found = {-1, 0, 1, 2, 0};
        for (int k = 0; k < told.length; k++) {
            put(x, told[k]);
            due("check of " + java.util.Arrays.toString(told[k]), x.check(3), found[k]);
        }
    }

    private static void notKept() {
        GustHome x = gusts(1);
        x.name(0, 1);
        x.keep();
        x.ward(0, 1, 2, 3);
        x.needs(1, 1);
        x.wind(1, 1, 9);
        x.home(1, 1);
        x.house(1, 1, 1);
        law(x, "x(1=1)");
        rules(x, "(1=1)");
        table(x, 0, "AB");
        Texts.put(x, "A");
        x.undo();
        int[] ward = {1, 2, 3, 1, 2};
        for (int k = 0; k < ward.length; k++) due("wards are not undone, " + k, x.wardIs(0, k), ward[k]);
        int[] what = {5, 6, 7, 9, 10, 11, 21};
        int[] is = {1, 1, 20, 2, 2, 2, 1};
        for (int k = 0; k < what.length; k++) due("count(" + what[k] + ") is not undone", x.count(what[k]), is[k]);
    }

    private static void refusedCalls() {
        says(1, "All memory is the orphanage's own.");
        GustHome x = furnished(true), y = new GustHome();
        String before = Texts.seen(y);
        law(x, "b1(1=1)");
        x.months(3);
        x.keep();
        Texts.put(x, "A");
        DOC.same("another home", Texts.seen(y), before);
        due("nothing kept there", y.undo(), false);
        says(2, "A call that is refused (NONE, false) changes nothing but the tape, where it is told.");
        x = furnished(true);
        law(x, "b1(1=1)");
        x.wind(1, 5, 40);
        x.home(1, 516);
        x.house(1, 9, 4);
        Texts.put(x, "9A");
        before = Texts.seen(x);
        boolean told = x.gust(3, 100, 1, 1, 1) | x.gust(3, 1, 1, 1, 10) | x.name(3, 8) | x.moves(3, 4) | x.moves(3, 6) | x.habit(3, 10, false)
            | x.ward(4, 1, 10, 1) | x.ward(4, 1, 1, 5) | x.nurse(2, 10) | x.needs(7, 128) | x.wind(1, 2, 256) | x.wind(1, 8, 2) | x.home(1, 1024)
            | x.house(1, 100, 1) | x.house(1, 1, 1024) | x.seed(65536) | x.seed(-1) | x.undo();
        due("all are refused", told, false);
        int none = x.law(21) + x.rules(241) + x.timetable(6, 1) + x.timetable(4, 61) + x.months(61) + x.months(0) + x.letGo(1) + x.fair(1) + x.escaped(1, 1, 1, 100)
            + x.escaped(7, 1, 1, 1);
        due("ten times NONE", none, -10);
        due("check", x.check(13), -2);
        DOC.same("all, with the tape", Texts.seen(x), before);
        due("a fault is told: the tape is empty", x.law(1), -1000);
        due("the tape", x.count(7), 0);
        due("the law stays", x.count(5), 1);
        says(37, "The constants: `NONE = -1`: There is none.");
        due("NONE", GustHome.NONE, -1);
    }
}
