/** "Promise 1" to "Promise 37" of the document, sentence by sentence: each boundary that one names. */
public final class PromisesBySentence {
    private static final Sentences DOC = Sentences.ofPromises();

    private static void says(int promise, String words) { DOC.says(promise, words); }
    private static void due(String what, int got, int want) { DOC.due(what, got, want); }
    private static void due(String what, boolean got, boolean want) { DOC.due(what, got, want); }
    private static int law(GustHome x, String t) { return Texts.law(x, t); }
    private static int rules(GustHome x, String t) { return Texts.rules(x, t); }
    private static int table(GustHome x, int w, String t) { return Texts.table(x, w, t); }
    private static void put(GustHome x, String t) { Texts.put(x, t); }
    private static void put(GustHome x, int... bytes) { Texts.put(x, bytes); }

    public static void main(String[] args) {
        made();
        gust();
        nameAndMoves();
        habitAndWard();
        nurseAndNeeds();
        feed();
        law();
        rules();
        timetable();
        months();
        tried();
        triedBeyond();
        gustIs();
        wardIs();
        nurseIsAndQuarrel();
        housed();
        wind();
        leaving();
        letGo();
        homeAndFrom();
        taught();
        houseAndPlaced();
        fair();
        escaped();
        nursed();
        round();
        added();
        seed();
        keepAndUndo();
        check();
        count();
        DOC.end();
    }

    /** Gust 2 alone: strength 30, temper 5, ward 1, gale 6. */
    private static GustHome one() {
        GustHome x = new GustHome();
        x.gust(2, 30, 5, 1, 6);
        return x;
    }
    /** Gusts from 0 on, in ward 0, by their strengths. */
    private static GustHome gusts(int... strength) {
        GustHome x = new GustHome();
        for (int g = 0; g < strength.length; g++) x.gust(g, strength[g], 0, 0, g % 10);
        return x;
    }

    private static void made() {
        says(1, "No GUSTS, NURSES, LAW, RULES; THE SEED 1.");
        GustHome x = new GustHome();
        int[] first = {0, 0, 0, 0, 0, 0, 0, 0, 1, 0, 0, 0};
        for (int k = 0; k < first.length; k++) due("count(" + k + ")", x.count(k), first[k]);
        for (int g = 0; g < 12; g++) due("gust " + g, x.gustIs(g, 0), -1);
        for (int k = 0; k < 5; k++) due("nurse " + k, x.nurseIs(k, 0), -1);
        due("nothing was kept", x.undo(), false);
        due("a month without anyone", x.months(1), 0);
    }

    // ---- telling ----

    private static void gust() {
        says(2, "A GUST (in place of the one before; no QUARTER, no HABITS): true;");
        GustHome x = one();
        x.name(2, 3);
        x.habit(2, 9, true);
        due("in place of it", x.gust(2, 99, 9, 5, 9), true);
        int[] is = {99, -2, 9, 5, 9, 0};
        for (int k = 0; k < is.length; k++) due("gustIs(2, " + k + ")", x.gustIs(2, k), is[k]);
        due("the same as it is", x.gust(2, 99, 9, 5, 9), true);
        due("all naught", x.gust(0, 0, 0, 0, 0), true);
        due("told", x.count(3), 5);
        says(2, "false: no such ones.");
        DOC.taken("gust", 0, 11, v -> new GustHome().gust(v, 1, 1, 1, 1));
        DOC.taken("strength", 0, 99, v -> new GustHome().gust(1, v, 1, 1, 1));
        DOC.taken("temper", 0, 9, v -> new GustHome().gust(1, 1, v, 1, 1));
        DOC.taken("ward", 0, 5, v -> new GustHome().gust(1, 1, 1, v, 1));
        DOC.taken("gale", 0, 9, v -> new GustHome().gust(1, 1, 1, 1, v));
        due("one that is refused leaves the one before", x.gust(2, 5, 5, 5, 10), false);
        due("strength", x.gustIs(2, 0), 99);
        says(2, "(ROOM is not looked at.)");
        x = new GustHome();
        x.ward(0, 0, 0, -1);
        due("no room", x.gust(0, 1, 1, 0, 1), true);
        for (int g = 0; g < 12; g++) x.gust(g, 1, 1, 1, 1);
        due("twelve where there is room for nine", x.wardIs(1, 3), 4095);
    }

    private static void nameAndMoves() {
        says(3, "A told GUST is NAMED: a QUARTER: true;");
        GustHome x = one();
        due("named", x.name(2, 7), true);
        due("named anew", x.name(2, 0), true);
        due("quarter", x.gustIs(2, 1), 0);
        says(3, "false: no such ones.");
        DOC.taken("quarter", 0, 7, q -> one().name(2, q));
        due("not told", x.name(1, 1), false);
        due("not told", new GustHome().name(0, 0), false);
        due("gust 12", x.name(12, 1), false);
        due("gust -1", x.name(-1, 1), false);
        says(4, "A told GUST comes to a WARD: true;");
        due("comes", x.moves(2, 5), true);
        due("ward", x.gustIs(2, 3), 5);
        due("bits", x.wardIs(5, 3), 4);
        due("none where it was", x.wardIs(1, 3), 0);
        says(4, "false: no such ones, it is there,");
        due("it is there", x.moves(2, 5), false);
        DOC.taken("ward", 0, 5, w -> { GustHome y = one(); y.moves(2, 2); return y.moves(2, w); });
        due("not told", x.moves(0, 1), false);
        due("gust 12", x.moves(12, 1), false);
        due("gust -1", x.moves(-1, 1), false);
        says(4, "or as many as there is ROOM are there.");
        x = gusts(1, 1, 1, 1, 1, 1, 1, 1, 1, 1);
        for (int g = 0; g < 9; g++) due("move " + g, x.moves(g, 3), true);
        due("nine are there", x.moves(9, 3), false);
        due("it stays", x.gustIs(9, 3), 0);
        x.ward(3, 8, 0, -1);
        due("more than room are there", x.moves(9, 3), false);
        x.ward(4, 0, 0, -1);
        due("no room", x.moves(9, 4), false);
        x.ward(4, 1, 0, -1);
        due("room for one", x.moves(9, 4), true);
        due("full then", x.moves(8, 4), false);
        x.moves(9, 5);
        due("room again", x.moves(8, 4), true);
    }

    private static void habitAndWard() {
        says(5, "A HABIT of a told GUST, or no more: true;");
        GustHome x = one();
        due("has", x.habit(2, 9, true), true);
        due("has already", x.habit(2, 9, true), true);
        due("bits", x.gustIs(2, 5), 512);
        due("no more", x.habit(2, 9, false), true);
        due("had none", x.habit(2, 0, false), true);
        due("bits", x.gustIs(2, 5), 0);
        says(5, "false: no such ones.");
        DOC.taken("habit", 0, 9, h -> one().habit(2, h, true));
        DOC.taken("habit no more", 0, 9, h -> one().habit(2, h, false));
        due("not told", x.habit(1, 1, true), false);
        due("gust 12", x.habit(12, 1, true), false);
        due("gust -1", x.habit(-1, 1, true), false);
        due("bits", x.gustIs(2, 5), 0);
        says(6, "A WARD's ROOM, DUST, NURSE (NONE: none): true;");
        due("all 9", x.ward(5, 9, 9, 4), true);
        int[] is = {9, 9, 4};
        for (int k = 0; k < 3; k++) due("wardIs(5, " + k + ")", x.wardIs(5, k), is[k]);
        due("all naught", x.ward(5, 0, 0, -1), true);
        is = new int[] {0, 0, -2};
        for (int k = 0; k < 3; k++) due("wardIs(5, " + k + ")", x.wardIs(5, k), is[k]);
        says(6, "false: no such ones (a NURSE need not be told).");
        DOC.taken("ward", 0, 5, w -> new GustHome().ward(w, 1, 1, 1));
        DOC.taken("room", 0, 9, r -> new GustHome().ward(1, r, 1, 1));
        DOC.taken("dust", 0, 9, d -> new GustHome().ward(1, 1, d, 1));
        DOC.taken("nurse", -1, 4, k -> new GustHome().ward(1, 1, 1, k));
        due("nurse -2", x.ward(5, 1, 1, -2), false);
        due("it stays", x.wardIs(5, 0), 0);
    }

    private static void nurseAndNeeds() {
        says(7, "A NURSE (in place of the one before; not ILL): true;");
        GustHome x = one();
        x.ward(1, 9, 0, 4);
        due("told", x.nurse(4, 9), true);
        law(x, "i10(1=1)");
        x.months(1);
        due("ill", x.nurseIs(4, 1), 10);
        due("in place of it", x.nurse(4, 0), true);
        due("asthma", x.nurseIs(4, 0), 0);
        due("not ill", x.nurseIs(4, 1), 0);
        says(7, "false: no such ones.");
        DOC.taken("nurse", 0, 4, k -> new GustHome().nurse(k, 1));
        DOC.taken("asthma", 0, 9, a -> new GustHome().nurse(1, a));
        x.months(1);
        due("one that is refused", x.nurse(4, 10), false);
        due("stays ill", x.nurseIs(4, 1), 1);
        says(8, "What a lesson NEEDS (as bits, not itself): true;");
        due("all others of 0", x.needs(0, 1022), true);
        due("all others of 9", x.needs(9, 511), true);
        due("it is", x.count(20), 1022);
        due("none", x.needs(0, 0), true);
        due("it is", x.count(20), 0);
        for (int l = 0; l < 10; l++) due("itself, " + l, x.needs(l, 1 << l), false);
        due("itself and others", x.needs(9, 1023), false);
        due("it stays", x.count(29), 511);
        says(8, "false: no such ones.");
        DOC.taken("lesson", 0, 9, l -> new GustHome().needs(l, 0));
        DOC.taken("bits", 0, 1022, b -> new GustHome().needs(0, b));
        due("bits 1024", x.needs(0, 1024), false);
    }

    // ---- the tape ----

    private static void feed() {
        says(9, "Twenty bytes come behind the tape, the highest of each int first: how many it has;");
        GustHome x = gusts(1, 2, 3, 4, 5, 6, 7, 8, 9, 10, 11, 12);
        due("twenty", x.feed(0x01020304, 0x05060708, 0x090a0b0c, -1, Integer.MIN_VALUE), 20);
        due("their order", x.check(12), -1);
        x.feed(0x2e2e2e2e, 0x2e2e2e2e, 0x2e2e2e2e, 0x2e2e2e2e, 0x2e2e2e2e);
        due("behind it", x.feed(0x41424344, 0, 0, 0, 0), 40);
        due("the twentieth, and those behind", x.timetable(0, 24), 24);
        x.months(20);
        for (int l = 0; l < 4; l++) {
            due("lesson " + l, x.wardIs(0, 5), l);
            x.months(1);
        }
        says(9, "NONE if that would be more than 260.");
        x = new GustHome();
        for (int k = 1; k <= 13; k++) due("feed " + k, x.feed(k, 0, 0, 0, 0), 20 * k);
        due("feed 14", x.feed(0, 0, 0, 0, 0), -1);
        due("it has", x.count(7), 260);
        due("feed 15", x.feed(0, 0, 0, 0, 0), -1);
        x.check(0);
        due("emptied, and fed", x.feed(0, 0, 0, 0, 0), 20);
    }

    private static void law() {
        says(10, "THE LAW by the first n bytes of the tape (1 to 240; empty then), in place of the one before: how many CLAUSES;");
        GustHome x = new GustHome();
        put(x, "x(1=1);b1(1=1);y");
        due("the first 14", x.law(14), 2);
        due("clauses", x.count(5), 2);
        due("empty then", x.count(7), 0);
        due("in place of it", law(x, "e(1=1)"), 1);
        due("clauses", x.count(5), 1);
        GustHome two = gusts(1, 1);
        for (String t : new String[] {"b1(1=1);x(1=1);b1(1=1)", "b1(1=1)", "b2(1=1)", "b3(1=1);x(1=1);y", "b4(1=1)"}) {
            law(two, t);
            due("quarrels by the one in place after " + t, two.quarrel(0, 1), t.contains("x") && !t.endsWith("y") ? 1 : 0);
        }
        due("toys by the one in place", two.tried(1, 1), 8);
        for (String t : new String[] {"x(1=2);x(1=1)", "b1(1=1)", "b1+1(1=1)"}) law(two, t);
        due("nothing is left of a longer one", two.quarrel(0, 1), 0);
        for (String t : new String[] {"b1(1=2);b4+5(1=1)", "x(1=1)", "f1(1=2|1=2|1=1)"}) law(two, t);
        due("nothing is left of a longer one", two.tried(1, 1), 0);
        due("16", law(x, Texts.times(16, "e(1=1)", ";")), 16);
        due("240 bytes", law(x, "f" + Texts.times(116, "1+", "") + "12(1=1)"), 1);
        due("one byte", law(x, "f"), -1001);
        says(10, "a FAULT: -1000 times its number, less its place (the one before stays);");
        due("fault 1 at 0", law(x, "y"), -1000);
        due("fault 1 at 239", law(x, "f" + Texts.times(116, "1+", "") + "12(1=1;"), -1239);
        due("fault 1 at 240, the end", law(x, "f" + Texts.times(116, "1+", "") + "123(1=1"), -1240);
        due("fault 2 at 6", law(x, "f111111(1=1)"), -2006);
        due("fault 4 at 112", law(x, Texts.times(17, "e(1=1)", ";")), -4112);
        due("fault 5 at 7", law(x, "x(!!!!!!1=1)"), -5007);
        due("empty then", x.count(7), 0);
        due("the one before stays", x.count(5), 1);
        GustHome y = gusts(1, 1);
        law(y, "x(1=1)");
        law(y, "x(1=2);x(1=2);y");
        due("it holds still", y.quarrel(0, 1), 1);
        says(10, "NONE: no such n, it has not so many (the tape stays).");
        DOC.none("n", 1, 240, n -> { GustHome z = new GustHome(); put(z, Texts.times(260, "f", "")); return z.law(n); });
        put(x, "f1(1=1)");
        due("20 are there", x.law(21), -1);
        due("the tape stays", x.count(7), 20);
        due("n 0", x.law(0), -1);
        due("the tape stays", x.count(7), 20);
        due("20 are there", x.law(20), -1007);
        due("an empty tape", x.law(1), -1);
        due("clauses", x.count(5), 1);
    }

    private static void rules() {
        says(11, "RULES by the first n bytes of the tape (1 to 240; empty then), in place of those before: how many;");
        GustHome x = new GustHome();
        put(x, "(1=1);(1=2);y");
        due("the first 11", x.rules(11), 2);
        due("rules", x.count(6), 2);
        due("empty then", x.count(7), 0);
        due("the second does not hold", x.wardIs(0, 6), 1);
        due("in place of them", rules(x, "(1=1)"), 1);
        due("all hold", x.wardIs(0, 6), -2);
        for (String t : new String[] {"(1=1);(1=1);(1=2)", "(1=1)", "(1=1);(1=1)", "(1=1);(1=2);y", "(2=2)"}) {
            rules(x, t);
            due("the first broken after " + t, x.wardIs(5, 6), t.length() == 17 ? 2 : -2);
        }
        due("12", rules(x, Texts.times(12, "(1=1)", ";")), 12);
        due("240 bytes", rules(x, "(" + Texts.times(117, "1+", "") + "10<9)"), 1);
        says(11, "a FAULT;");
        due("fault 1 at 0", rules(x, "e(1=1)"), -1000);
        due("fault 1 at 239", rules(x, "(" + Texts.times(117, "1+", "") + "10<9;"), -1239);
        due("fault 2 at 6", rules(x, "(111111=1)"), -2006);
        due("fault 4 at 72", rules(x, Texts.times(13, "(1=1)", ";")), -4072);
        due("fault 5 at 6", rules(x, "(!!!!!!1=1)"), -5006);
        due("empty then", x.count(7), 0);
        due("those before stay", x.count(6), 1);
        due("those before stay", x.wardIs(0, 6), 0);
        says(11, "NONE: as above.");
        DOC.none("n", 1, 240, n -> { GustHome z = new GustHome(); put(z, Texts.times(260, "(", "")); return z.rules(n); });
        put(x, "(1=1)");
        due("20 are there", x.rules(21), -1);
        due("the tape stays", x.count(7), 20);
        due("20 are there", x.rules(20), -1005);
        due("an empty tape", x.rules(1), -1);
    }

    private static void timetable() {
        says(12, "A TIMETABLE of a WARD by the first n bytes of the tape (1 to 60; empty then), in place of the one before: how many MONTHS;");
        GustHome x = new GustHome();
        put(x, "A9BK");
        due("the first 3", x.timetable(5, 3), 10);
        due("months", x.wardIs(5, 4), 10);
        due("empty then", x.count(7), 0);
        due("one byte", table(x, 5, "J"), 1);
        due("in place of it", x.wardIs(5, 4), 1);
        due("in place of it", x.wardIs(5, 5), 9);
        due("of that ward alone", x.wardIs(4, 4), 0);
        due("48", table(x, 0, "6(8.)"), 48);
        due("60 bytes", table(x, 0, Texts.times(12, "(AAA)", "")), 36);
        says(12, "a FAULT;");
        due("fault 1 at 0", table(x, 0, "K"), -1000);
        due("fault 1 at 60, the end", table(x, 0, Texts.times(11, "(AAA)", "") + "(AAAA"), -1060);
        due("fault 5 at 2", table(x, 0, "(((A)))"), -5002);
        due("fault 6 at 0", table(x, 0, "7(7A)"), -6000);
        due("fault 6 at 48", table(x, 0, Texts.times(49, ".", "")), -6048);
        due("empty then", x.count(7), 0);
        due("the one before stays", x.wardIs(0, 4), 36);
        says(12, "NONE: no such ones, it has not so many (the tape stays).");
        DOC.none("n", 1, 60, n -> { GustHome z = new GustHome(); put(z, Texts.times(80, "K", "")); return z.timetable(0, n); });
        DOC.none("ward", 0, 5, w -> table(new GustHome(), w, "K"));
        put(x, "A");
        due("20 are there", x.timetable(0, 21), -1);
        due("ward 6", x.timetable(6, 1), -1);
        due("the tape stays", x.count(7), 20);
        due("then", x.timetable(0, 1), 1);
        due("an empty tape", x.timetable(0, 1), -1);
    }

    // ---- months ----

    /** Two gusts in ward 0 with a nurse, all clauses, rules and a timetable. */
    private static GustHome busy() {
        GustHome x = gusts(30, 40);
        x.ward(0, 9, 1, 0);
        x.nurse(0, 1);
        law(x, "f2(1=1);g1(1=1);b3(1=1);i3(1=1);e(1=1);x(1=1)");
        rules(x, "(w<9);(u<7|w<2);(u<7)");
        table(x, 0, "AB");
        return x;
    }

    private static void months() {
        says(13, "MONTHS (1 to 60) go by (as many as can): HABITS that were learnt;");
        GustHome x = busy();
        due("one: two learn", x.months(1), 2);
        due("month", x.count(0), 1);
        due("60", x.months(60), 2);
        due("month", x.count(0), 61);
        due("nothing more to learn", x.months(60), 0);
        x = gusts(1);
        for (int k = 0; k < 166; k++) x.months(60);
        due("60 of which 39 can", x.months(60), 0);
        due("month", x.count(0), 9999);
        due("none can", x.months(1), 0);
        due("month", x.count(0), 9999);
        says(13, "NONE: no such n.");
        DOC.none("n", 1, 60, n -> new GustHome().months(n));
        due("at the last month, too", x.months(0), -1);
        due("at the last month, too", x.months(61), -1);
    }

    private static void tried() {
        says(14, "MONTHS (1 to 60; as many as can) that are tried,");
        GustHome x = busy();
        String before = Texts.seen(x);
        DOC.none("n", 1, 60, n -> busy().tried(n, 1));
        due("60", x.tried(60, 1), 360);
        DOC.same("all", Texts.seen(x), before);
        says(14, "what 0 HABITS learnt, 1 TOYS broken, 2 WHISTLES, 3 NURSES that fell ill, 4 in how many MONTHS a RULE was broken,");
        x = busy();
        // the first draw is 2, so the nurse falls ill for two months and A alone is learnt
        int[] one = {2, 6, 1, 1, 0};
        for (int k = 0; k < one.length; k++) due("one month, what " + k, x.tried(1, k), one[k]);
        int[] two = {2, 12, 2, 1, 1};
        for (int k = 0; k < two.length; k++) due("two months, what " + k, x.tried(2, k), two[k]);
        x.months(2);
        due("toys of the tried months alone", x.tried(1, 1), 6);
        due("whistles of the tried months alone", x.tried(1, 2), 1);
        says(14, "5 the first RULE broken in the first of these (-2: none), 6 in which WARD (-2),");
        x = busy();
        due("none, rule", x.tried(1, 5), -2);
        due("none, ward", x.tried(1, 6), -2);
        due("rule", x.tried(2, 5), 1);
        due("ward", x.tried(2, 6), 2);
        due("rule of the first, not of the last", x.tried(60, 5), 1);
        rules(x, "(!m=1|!w=5);(!m=0|!w=4)");
        due("the first month, not the first rule", x.tried(2, 5), 1);
        due("its ward", x.tried(2, 6), 4);
        due("two months", x.tried(2, 4), 2);
        says(14, "10 + g STRENGTH of told GUST g then;");
        x = busy();
        due("gust 0", x.tried(1, 10), 31);
        due("gust 1", x.tried(1, 11), 41);
        GustHome y = new GustHome();
        y.gust(11, 77, 0, 0, 0);
        due("gust 11", y.tried(60, 21), 77);
        says(14, "NONE: no such ones.");
        int[] wrong = {-1, 7, 8, 9, 12, 21, 22, Integer.MIN_VALUE, Integer.MIN_VALUE + 10, Integer.MAX_VALUE};
        for (int w : wrong) due("what " + w, x.tried(1, w), -1);
        due("n 0", x.tried(0, 0), -1);
        due("n 61", x.tried(61, 0), -1);
    }

    private static void triedBeyond() {
        says(14, "as many as can");
        GustHome x = gusts(9);
        law(x, "b1(1=1);g1(1=1)");
        for (int k = 0; k < 166; k++) x.months(60);
        x.months(38);
        due("one can", x.tried(60, 1), 1);
        x.months(1);
        due("none can: toys", x.tried(60, 1), 0);
        due("none can: strength", x.tried(60, 10), x.gustIs(0, 0));
        due("none can: rule", x.tried(60, 5), -2);
        due("none can, wrong n", x.tried(61, 1), -1);
    }

    // ---- what is ----

    private static void gustIs() {
        says(15, "Of a told GUST, what 0 STRENGTH, 1 the QUARTER (-2: none), 2 TEMPER, 3 the WARD, 4 the GALE, 5 HABITS (as bits);");
        GustHome x = one();
        x.habit(2, 0, true);
        x.habit(2, 9, true);
        int[] is = {30, -2, 5, 1, 6, 513};
        for (int k = 0; k < is.length; k++) due("what " + k, x.gustIs(2, k), is[k]);
        for (int q = 0; q < 8; q++) {
            x.name(2, q);
            due("quarter " + q, x.gustIs(2, 1), q);
        }
        says(15, "NONE for others.");
        DOC.none("what", 0, 5, w -> one().gustIs(2, w));
        for (int g : new int[] {-1, 0, 1, 3, 11, 12, Integer.MIN_VALUE, Integer.MAX_VALUE}) due("gust " + g, x.gustIs(g, 0), -1);
    }

    private static void wardIs() {
        says(16, "Of a WARD, what 0 ROOM, 1 DUST, 2 the NURSE (-2: none), 3 GUSTS in it (as bits), 4 MONTHS of its TIMETABLE,");
        GustHome x = one();
        int[] first = {9, 0, -2, 4, 0};
        for (int k = 0; k < first.length; k++) due("what " + k, x.wardIs(1, k), first[k]);
        x.ward(1, 0, 9, 0);
        x.gust(11, 1, 1, 1, 1);
        table(x, 1, "6(8A)");
        int[] then = {0, 9, 0, 2052, 48};
        for (int k = 0; k < then.length; k++) due("what " + k, x.wardIs(1, k), then[k]);
        due("an empty ward", x.wardIs(0, 3), 0);
        says(16, "5 the lesson of the next MONTH (-2: none),");
        due("no timetable", x.wardIs(0, 5), -2);
        table(x, 0, ".JA");
        int[] lessons = {-2, 9, 0, -2};
        for (int k = 0; k < lessons.length; k++) {
            due("month " + k, x.wardIs(0, 5), lessons[k]);
            x.months(1);
        }
        says(16, "6 the first RULE that does not hold there now (-2: all do);");
        due("no rules", x.wardIs(0, 6), -2);
        rules(x, "(w<9);(w<5);(w<4);(w<4)");
        int[] rule = {-2, -2, -2, -2, 2, 1};
        for (int w = 0; w < 6; w++) due("ward " + w, x.wardIs(w, 6), rule[w]);
        rules(x, Texts.times(11, "(1=1)", ";") + ";(1=2)");
        due("the last of twelve", x.wardIs(0, 6), 11);
        rules(x, "(v<32)");
        due("now", x.wardIs(1, 6), -2);
        x.gust(0, 1, 0, 1, 0);
        due("now, with one more", x.wardIs(1, 6), 0);
        says(16, "NONE for others.");
        DOC.none("what", 0, 6, w -> one().wardIs(1, w));
        DOC.none("ward", 0, 5, w -> one().wardIs(w, 0));
    }

    private static void nurseIsAndQuarrel() {
        says(17, "Of a told NURSE, what 0 ASTHMA, 1 ILL;");
        GustHome x = one();
        x.nurse(0, 9);
        x.ward(1, 9, 0, 0);
        due("asthma", x.nurseIs(0, 0), 9);
        due("ill", x.nurseIs(0, 1), 0);
        law(x, "i10(1=1)");
        x.months(1);
        due("ill at most", x.nurseIs(0, 1), 10);
        due("asthma still", x.nurseIs(0, 0), 9);
        says(17, "NONE for others.");
        for (int w : new int[] {-1, 2, Integer.MIN_VALUE, Integer.MAX_VALUE}) due("what " + w, x.nurseIs(0, w), -1);
        for (int k : new int[] {-1, 1, 4, 5, Integer.MIN_VALUE, Integer.MAX_VALUE}) due("nurse " + k, x.nurseIs(k, 0), -1);
        says(18, "Whether two told GUSTS QUARREL: 1, 0;");
        x = gusts(10, 20, 30);
        due("no law", x.quarrel(0, 1), 0);
        law(x, "x(s<o&o<30)");
        due("one way", x.quarrel(0, 1), 1);
        due("the other way", x.quarrel(1, 0), 1);
        due("neither", x.quarrel(1, 2), 0);
        x.moves(1, 5);
        due("in two wards", x.quarrel(0, 1), 1);
        says(18, "NONE: no such ones, one twice.");
        due("one twice", x.quarrel(0, 0), -1);
        for (int g : new int[] {-1, 3, 11, 12, Integer.MIN_VALUE, Integer.MAX_VALUE}) {
            due("0 and " + g, x.quarrel(0, g), -1);
            due(g + " and 0", x.quarrel(g, 0), -1);
            due(g + " twice", x.quarrel(g, g), -1);
        }
    }

    // ---- plans ----

    private static void housed() {
        says(19, "HOUSED: GUSTS (as bits, 1 to 6 told ones) in WARDS (as bits, 1 to 3), what 20 how many twos, else the WARD of GUST what of them;");
        GustHome x = gusts(0, 1, 2, 3, 4, 5, 6);
        x.gust(11, 1, 0, 0, 0);
        law(x, "x(s+o=1)");
        due("one in one ward", x.housed(1, 1, 20), 0);
        due("its ward", x.housed(1, 32, 0), 5);
        due("six in one", x.housed(63, 1, 20), 1);
        due("six in three", x.housed(63, 7, 20), 0);
        due("0 and 1 apart", x.housed(63, 7, 0), 0);
        due("0 and 1 apart", x.housed(63, 7, 1), 1);
        due("2 with 0", x.housed(63, 7, 2), 0);
        due("gust 11", x.housed(1 | 2048, 48, 11), 5);
        says(19, "-2: there is no ROOM;");
        for (int w = 0; w < 3; w++) x.ward(w, 2, 0, -1);
        due("room for six", x.housed(63, 7, 20), 0);
        x.ward(2, 1, 0, -1);
        due("room for five", x.housed(63, 7, 20), -2);
        due("room for five, a ward", x.housed(63, 7, 5), -2);
        due("five", x.housed(31, 7, 20), 0);
        x.ward(5, 0, 0, -1);
        due("room for none", x.housed(1, 32, 0), -2);
        says(19, "NONE: no such ones.");
        for (int b : new int[] {0, 127, 128, 4096, 4097, -1, Integer.MIN_VALUE, Integer.MAX_VALUE}) due("gusts " + b, x.housed(b, 1, 20), -1);
        for (int b : new int[] {0, 15, 64, 65, -1, Integer.MIN_VALUE, Integer.MAX_VALUE}) due("wards " + b, x.housed(1, b, 20), -1);
        for (int w : new int[] {-1, 1, 11, 12, 19, 21, 32, Integer.MIN_VALUE, Integer.MAX_VALUE}) due("what " + w, x.housed(1, 1, w), -1);
        due("no room and no such what", x.housed(1, 32, 1), -1);
        due("nothing is changed", x.wardIs(0, 3), 127 | 2048);
    }

    private static void wind() {
        says(20, "A WIND: true;");
        GustHome x = gusts(50);
        x.name(0, 4);
        due("told", x.wind(3, 4, 49), true);
        due("too weak", x.leaving(1, 0), 4);
        due("told anew", x.wind(3, 4, 50), true);
        due("strong enough", x.leaving(1, 0), 3);
        due("bits", x.count(9), 8);
        says(20, "false: no such ones.");
        DOC.taken("wind", 0, 3, k -> new GustHome().wind(k, 1, 1));
        DOC.taken("quarter", 0, 7, q -> new GustHome().wind(1, q, 1));
        DOC.taken("limit", 0, 255, l -> new GustHome().wind(1, 1, l));
        due("one that is refused", x.wind(3, 0, 256), false);
        due("it stays", x.leaving(1, 0), 3);
    }

    /** Gusts of quarter 4 from 0 on, each of its own gale but the last two, and wind 1 with a limit. */
    private static GustHome leavers(int limit, int... strength) {
        GustHome x = gusts(strength);
        for (int g = 0; g < strength.length; g++) {
            x.gust(g, strength[g], 0, 0, Math.min(g, strength.length - 2));
            x.name(g, 4);
        }
        x.wind(1, 4, limit);
        return x;
    }

    private static void leaving() {
        says(21, "LET GO (as bits, 1 to 6 told ones) as it would be, what 20 how many, 21 STRENGTH, else the WIND of GUST what of them (4: it stays);");
        GustHome x = leavers(100, 10, 20, 30, 40, 50, 60, 70);
        due("one", x.leaving(1, 20), 1);
        due("six: 10 to 40", x.leaving(63, 20), 4);
        due("their strength", x.leaving(63, 21), 100);
        for (int g = 0; g < 6; g++) due("wind of " + g, x.leaving(63, g), g < 4 ? 1 : 4);
        due("one of the last two", x.leaving(64, 20), 1);
        due("both of one gale are too many", x.leaving(96, 20), 0);
        due("strength of none", x.leaving(96, 21), 0);
        due("nothing is changed", x.count(3), 127);
        says(21, "NONE: no such ones.");
        for (int b : new int[] {0, 127, 128, 4096, 4097, -1, Integer.MIN_VALUE, Integer.MAX_VALUE}) due("gusts " + b, x.leaving(b, 20), -1);
        for (int w : new int[] {-1, 1, 4, 12, 19, 22, 32, Integer.MIN_VALUE, Integer.MAX_VALUE}) due("what " + w, x.leaving(1, w), -1);
    }

    private static void letGo() {
        says(22, "LET GO: who goes (as bits);");
        GustHome x = leavers(100, 10, 20, 30, 40, 50, 60, 70);
        due("both of one gale stay", x.letGo(96), 0);
        due("all are told still", x.count(3), 127);
        due("six", x.letGo(63), 15);
        due("told", x.count(3), 112);
        due("one that stays", x.gustIs(4, 0), 50);
        due("one that goes", x.gustIs(3, 0), -1);
        due("the last one alone", x.letGo(64), 64);
        says(22, "NONE: no such ones.");
        for (int b : new int[] {0, 1, 64, 4096, -1, Integer.MIN_VALUE, Integer.MAX_VALUE}) due("gusts " + b, x.letGo(b), -1);
        GustHome y = leavers(100, 1, 1, 1, 1, 1, 1, 1);
        due("seven", y.letGo(127), -1);
        due("none went", y.count(3), 127);
    }

    private static void homeAndFrom() {
        says(23, "A HOME: true;");
        GustHome x = gusts(1);
        due("all habits", x.home(9, 1023), true);
        due("none", x.home(0, 0), true);
        due("bits", x.count(10), 513);
        due("all is asked", x.from(0, 1023, 0), 1);
        due("told anew", x.home(0, 1), true);
        due("none fits", x.from(0, 1023, 0), 0);
        says(23, "false: no such ones.");
        DOC.taken("home", 0, 9, k -> new GustHome().home(k, 1));
        DOC.taken("habits", 0, 1023, h -> new GustHome().home(1, h));
        due("one that is refused", x.home(0, 1024), false);
        due("it stays", x.from(0, 1, 0), 0);
        says(24, "FROM: HABITS of a told GUST that are asked (as bits), what 0 HOMES that fit (as bits), 1 the HABIT that tells most (-2: none);");
        due("nothing asked", x.from(0, 0, 0), 513);
        due("0 is had by both: 1 tells", x.from(0, 0, 1), 1);
        due("only 9 was not asked", x.from(0, 511, 1), -2);
        x.home(0, 511);
        x.habit(0, 0, true);
        due("only 9 tells", x.from(0, 0, 1), 9);
        due("only 9 was not asked", x.from(0, 1, 1), 9);
        due("9 was asked", x.from(0, 513, 0), 1);
        due("one is left", x.from(0, 513, 1), -2);
        says(24, "NONE: no such ones.");
        DOC.none("asked", 0, 1023, a -> gusts(1).from(0, a, 0));
        DOC.none("what", 0, 1, w -> gusts(1).from(0, 0, w));
        for (int g : new int[] {-1, 1, 11, 12, Integer.MIN_VALUE, Integer.MAX_VALUE}) due("gust " + g, x.from(g, 0, 0), -1);
    }

    private static void taught() {
        says(25, "TAUGHT: HABITS (as bits) for a told GUST, what 20 how many lessons, else the lesson at place what (0 on);");
        GustHome x = gusts(1);
        x.needs(0, 512);
        x.needs(5, 1);
        due("how many", x.taught(0, 32, 20), 3);
        int[] row = {9, 0, 5};
        for (int k = 0; k < 3; k++) due("place " + k, x.taught(0, 32, k), row[k]);
        due("none", x.taught(0, 0, 20), 0);
        due("all", x.taught(0, 1023, 20), 10);
        due("the last of all", x.taught(0, 1023, 9), 5);
        says(25, "-2: it can't be;");
        x.needs(9, 32);
        due("a ring", x.taught(0, 32, 20), -2);
        due("a ring, a place", x.taught(0, 32, 0), -2);
        due("a ring, no such place", x.taught(0, 32, 10), -2);
        x.needs(3, 16);
        x.needs(4, 8);
        due("two that need each other", x.taught(0, 8, 20), -2);
        due("others", x.taught(0, 4, 20), 1);
        says(25, "-4: no such place;");
        due("behind the last", x.taught(0, 4, 1), -4);
        due("none is taught", x.taught(0, 0, 0), -4);
        for (int w : new int[] {10, 19, 21, -1, Integer.MIN_VALUE, Integer.MAX_VALUE}) due("place " + w, x.taught(0, 4, w), -4);
        says(25, "NONE: no such ones.");
        DOC.none("habits", 0, 1023, h -> gusts(1).taught(0, h, 20));
        for (int g : new int[] {-1, 1, 11, 12, Integer.MIN_VALUE, Integer.MAX_VALUE}) due("gust " + g, x.taught(g, 4, 20), -1);
        due("a ring, and no such gust", x.taught(1, 8, 20), -1);
    }

    private static void houseAndPlaced() {
        says(26, "A HOUSE: true;");
        GustHome x = gusts(10, 20, 30, 40, 50, 60, 70);
        due("told", x.house(4, 0, 0), true);
        due("kept there", x.placed(3, 1), 4);
        due("told anew", x.house(4, 99, 1023), true);
        x.habit(0, 9, true);
        due("kept there then", x.placed(3, 0), 4);
        due("bits", x.count(11), 16);
        says(26, "false: no such ones.");
        DOC.taken("house", 0, 4, k -> new GustHome().house(k, 1, 1));
        DOC.taken("rise", 0, 99, r -> new GustHome().house(1, r, 1));
        DOC.taken("habits", 0, 1023, h -> new GustHome().house(1, 1, h));
        due("one that is refused", x.house(4, 99, 1024), false);
        due("it stays", x.placed(3, 0), 4);
        says(27, "PLACED: GUSTS (as bits, 1 to 6 told ones), what: GUST what of them: its HOUSE (-2: nowhere);");
        due("one", x.placed(64, 6), 4);
        due("six", x.placed(126, 6), 4);
        due("six", x.placed(126, 5), -2);
        due("no house", gusts(1).placed(1, 0), -2);
        for (int k = 0; k < 4; k++) x.house(k, 50, 0);
        int[] row = {4, 3, 2, 1, 0};
        // house 4 wants what gust 0 has; the others go by their strength
        for (int g = 0; g < 5; g++) due("house of " + g, x.placed(31, g), row[g]);
        says(27, "NONE: no such ones.");
        for (int b : new int[] {0, 127, 128, 4096, 4097, -1, Integer.MIN_VALUE, Integer.MAX_VALUE}) due("gusts " + b, x.placed(b, 0), -1);
        for (int w : new int[] {-1, 1, 12, 20, 21, 32, Integer.MIN_VALUE, Integer.MAX_VALUE}) due("what " + w, x.placed(1, w), -1);
    }

    private static int fairOf(GustHome x, int gusts, int... bytes) {
        put(x, bytes);
        return x.fair(gusts);
    }

    private static void fair() {
        says(28, "FAIR: GUSTS (as bits, 1 to 6 told ones) by the first bytes of the tape (as many as they are: the HOUSE of each; 255: none; empty then): how many twos;");
        GustHome x = gusts(10, 20, 30, 40, 50, 60, 70);
        due("no house", fairOf(x, 1, 255), 0);
        x.house(0, 10, 0);
        x.house(4, 20, 0);
        due("one nowhere", fairOf(x, 1, 255), 2);
        due("one in the better", fairOf(x, 1, 4), 0);
        due("one in the lesser", fairOf(x, 1, 0), 1);
        due("six as placed", fairOf(x, 63, 255, 255, 255, 255, 0, 4), 0);
        due("six nowhere", fairOf(x, 63, 255, 255, 255, 255, 255, 255), 12);
        due("the weakest two", fairOf(x, 63, 0, 4, 255, 255, 255, 255), 8);
        due("what stands behind them is not looked at", fairOf(x, 1, 4, 4, 9), 0);
        due("empty then", x.count(7), 0);
        says(28, "-2: a HOUSE that is not told, one twice;");
        for (int h : new int[] {1, 2, 3, 5, 6, 128, 254}) due("house " + h, fairOf(x, 1, h), -2);
        due("one twice", fairOf(x, 3, 4, 4), -2);
        due("none twice", fairOf(x, 3, 255, 255), 4);
        due("the last of six", fairOf(x, 63, 255, 255, 255, 255, 0, 5), -2);
        due("empty then", x.count(7), 0);
        says(28, "NONE: no such ones, it has not so many (the tape stays).");
        due("an empty tape", x.fair(1), -1);
        put(x, 4);
        for (int b : new int[] {0, 127, 128, 4096, 4097, -1, Integer.MIN_VALUE, Integer.MAX_VALUE}) due("gusts " + b, x.fair(b), -1);
        due("the tape stays", x.count(7), 20);
        due("then", x.fair(1), 0);
        due("not so many", x.fair(63), -1);
    }

    private static int escape(int n, int speed, int hour, int what, int... bytes) {
        GustHome x = new GustHome();
        put(x, bytes);
        return x.escaped(n, speed, hour, what);
    }

    private static void escaped() {
        says(29, "ESCAPED by the first 3 n bytes of the tape (an HOUR 0 to 255, from, to; n 1 to 8; empty then),");
        due("hour 0", escape(1, 1, 1, 0, 0, 9, 9), 8);
        due("hour 255", escape(1, 1, 254, 1, 255, 9, 9), 10);
        int[] nine = new int[27];
        for (int k = 0; k < 27; k++) nine[k] = k % 3 == 0 ? k : 9;
        for (int n = 1; n <= 8; n++) due("n " + n, escape(n, 0, 0, 0, nine), 9);
        due("only the first 3 n", escape(1, 0, 0, 0, 5, 9, 9, 5, 251, 0), 9);
        GustHome x = new GustHome();
        put(x, nine);
        x.escaped(1, 0, 0, 0);
        due("empty then", x.count(7), 0);
        says(29, "SPOTS an HOUR (0 to 99), in a told HOUR (0 to 255),");
        DOC.none("speed", 0, 99, v -> escape(1, v, 0, 0, 0, 9, 9));
        DOC.none("hour", 0, 255, h -> escape(1, 1, h, 0, 0, 9, 9));
        due("99 an hour", escape(1, 99, 2, 1, 0, 9, 9), 207);
        due("0 an hour", escape(1, 0, 255, 1, 0, 9, 9), 9);
        says(29, "what 0 the lowest, 1 the highest, 2 and above: NETS of that width;");
        due("lowest", escape(1, 1, 5, 0, 0, 9, 19), 4);
        due("highest", escape(1, 1, 5, 1, 0, 9, 19), 24);
        due("21 spots in nets of 2", escape(1, 1, 5, 2, 0, 9, 19), 11);
        due("in nets of 20", escape(1, 1, 5, 20, 0, 9, 19), 2);
        due("in nets of 21", escape(1, 1, 5, 21, 0, 9, 19), 1);
        due("in nets of 99", escape(1, 1, 5, 99, 0, 9, 19), 1);
        says(29, "-2: it can't be;");
        for (int w : new int[] {0, 1, 2, 99}) due("what " + w, escape(2, 3, 0, w, 0, 9, 9, 4, 22, 22), -2);
        due("just so", escape(2, 3, 0, 0, 0, 9, 9, 4, 21, 21), 9);
        due("in an hour in which it was seen", escape(2, 3, 4, 0, 0, 9, 9, 4, 22, 22), -2);
        says(29, "-3: a SPOT above 250, from above to, HOURS that do not rise;");
        int[][] wrong = {{0, 9, 251}, {0, 251, 251}, {0, 10, 9}, {0, 255, 0}, {0, 9, 9, 0, 9, 9}, {1, 9, 9, 0, 9, 9}, {0, 9, 9, 1, 251, 255}, {255, 9, 9, 0, 9, 9}};
        for (int[] w : wrong) due("seen " + java.util.Arrays.toString(w), escape(w.length / 3, 99, 9, 0, w), -3);
        due("-3 ahead of -2", escape(3, 1, 9, 0, 0, 9, 9, 1, 250, 250, 1, 9, 9), -3);
        x = new GustHome();
        put(x, 0, 10, 9);
        due("and", x.escaped(1, 1, 1, 1), -3);
        due("empty then", x.count(7), 0);
        says(29, "NONE: no such ones (what 0 to 99), it has not so many (the tape stays).");
        DOC.none("what", 0, 99, w -> escape(1, 1, 0, w, 0, 9, 9));
        DOC.none("n", 1, 8, n -> escape(n, 1, 0, 0, nine));
        put(x, 0, 9, 9);
        int[][] bad = {{7, 1, 1, 0}, {8, 1, 1, 0}, {0, 1, 1, 0}, {1, 100, 1, 0}, {1, 1, 256, 0}, {1, 1, 1, 100}, {Integer.MAX_VALUE, 1, 1, 1}, {715827883, 1, 1, 1}};
        for (int[] b : bad) due("escaped of " + java.util.Arrays.toString(b), x.escaped(b[0], b[1], b[2], b[3]), -1);
        due("the tape stays", x.count(7), 20);
        due("twenty bytes hold six", x.escaped(6, 1, 1, 0), -3);
    }

    private static void nursed() {
        says(30, "NURSED: NURSES (as bits, told ones), WARDS (as bits), as many, 1 to 5, what 20 tenths, else the NURSE of WARD what of them;");
        GustHome x = gusts(1);
        for (int k = 0; k < 5; k++) x.nurse(k, 9 - k);
        law(x, "ia(n>0);i1(1=1)");
        due("one", x.nursed(1, 1, 20), 9);
        due("its nurse", x.nursed(16, 1, 0), 4);
        due("five", x.nursed(31, 31, 20), 9);
        due("the best where the gust is", x.nursed(31, 31, 0), 4);
        for (int w = 1; w < 5; w++) due("nurse of " + w, x.nursed(31, 31, w), w - 1);
        due("ward 5", x.nursed(31, 62, 5), 4);
        due("nobody is changed", x.wardIs(0, 2), -2);
        says(30, "NONE: no such ones.");
        int[][] bad = {{0, 0}, {0, 1}, {1, 0}, {3, 1}, {1, 3}, {31, 63}, {32, 1}, {1, 64}, {63, 63}, {-1, -1}, {Integer.MIN_VALUE, 1}, {1, Integer.MIN_VALUE}, {33, 3}, {3, 65}};
        for (int[] b : bad) due("nursed of " + java.util.Arrays.toString(b), x.nursed(b[0], b[1], 20), -1);
        for (int w : new int[] {-1, 1, 5, 6, 19, 21, 32, Integer.MIN_VALUE, Integer.MAX_VALUE}) due("what " + w, x.nursed(1, 1, w), -1);
        GustHome y = new GustHome();
        y.nurse(0, 1);
        due("one of two is told", y.nursed(3, 3, 20), -1);
    }

    private static void round() {
        says(31, "A ROUND: GUSTS (as bits, 3 to 8 told ones), what 20 how many rows, else the GUST at place what (0 on) of the first (-2: there is none);");
        GustHome x = gusts(0, 1, 2, 3, 4, 5, 6, 7, 8, 9, 10, 11);
        due("three", x.round(7, 20), 2);
        due("eight", x.round(255, 20), 5040);
        due("the last eight", x.round(255 << 4, 20), 5040);
        for (int k = 0; k < 8; k++) due("place " + k, x.round(255 << 4, k), k + 4);
        law(x, "x(s+1=o)");
        due("eight, none beside the next", x.round(255, 20), 490);
        int[] row = {0, 2, 1, 3};
        law(x, "x(s=0&o=1);x(s=2&o=3)");
        due("two ways", x.round(15, 20), 2);
        for (int k = 0; k < 4; k++) due("place " + k, x.round(15, k), row[k]);
        law(x, "x(s=0)");
        due("none", x.round(7, 20), 0);
        for (int k = 0; k < 3; k++) due("none, place " + k, x.round(7, k), -2);
        says(31, "NONE: no such ones.");
        for (int b : new int[] {0, 1, 3, 511, 4095, 4096 | 3, -1, Integer.MIN_VALUE, Integer.MAX_VALUE}) due("gusts " + b, x.round(b, 20), -1);
        for (int w : new int[] {-1, 3, 19, 21, 32, Integer.MIN_VALUE, Integer.MAX_VALUE}) due("what " + w, x.round(14, w), -1);
        due("place 7 of eight", x.round(510, 7), 8);
        due("place 8 of eight", x.round(510, 8), -1);
        due("none, and no such place", x.round(7, 3), -1);
        due("one not told", gusts(1, 1).round(7, 20), -1);
    }

    private static void added() {
        says(32, "ADDED UP: told GUSTS in a WARD (6: in all), what 0 east, 1 north;");
        GustHome x = gusts(10, 20, 30);
        x.name(0, 2);
        x.name(1, 1);
        x.name(2, 4);
        x.moves(2, 5);
        due("east in ward 0", x.added(0, 0), 20);
        due("north in ward 0", x.added(0, 1), 10);
        due("north in ward 5", x.added(5, 1), -30);
        due("an empty ward", x.added(4, 0), 0);
        due("north in all", x.added(6, 1), -20);
        x.wind(0, 4, 99);
        x.letGo(4);
        due("one that is told no more", x.added(6, 1), 10);
        due("none at all", new GustHome().added(6, 0), 0);
        says(32, "NONE: no such ones.");
        DOC.none("ward", 0, 6, w -> new GustHome().added(w, 0));
        DOC.none("what", 0, 1, w -> new GustHome().added(0, w));
    }

    // ---- kept ----

    private static void seed() {
        says(33, "THE SEED (0 to 65535; X, too): true;");
        GustHome x = one();
        for (int s : new int[] {0, 1, 65535}) {
            due("seed " + s, x.seed(s), true);
            due("X", x.count(8), s);
        }
        x.ward(1, 9, 0, 0);
        x.nurse(0, 0);
        x.months(1);
        due("X behind 65535", x.count(8), 54212);
        says(33, "false: no such number.");
        DOC.taken("seed", 0, 65535, s -> new GustHome().seed(s));
        due("refused", x.seed(65536), false);
        due("X stays", x.count(8), 54212);
    }

    private static void keepAndUndo() {
        says(34, "KEPT: how many GUSTS are told.");
        due("none", new GustHome().keep(), 0);
        due("one", one().keep(), 1);
        due("twelve", gusts(0, 1, 2, 3, 4, 5, 6, 7, 8, 9, 10, 11).keep(), 12);
        says(35, "UNDONE: true;");
        GustHome x = one();
        x.keep();
        x.gust(0, 1, 1, 1, 1);
        due("undone", x.undo(), true);
        due("told", x.count(3), 4);
        due("undone twice", x.undo(), true);
        GustHome y = new GustHome();
        y.keep();
        y.gust(0, 1, 1, 1, 1);
        due("kept with none", y.undo(), true);
        due("told", y.count(3), 0);
        says(35, "false: none was KEPT.");
        x = one();
        due("none", x.undo(), false);
        due("nothing is changed", x.count(3), 4);
    }

    private static void check() {
        says(36, "CHECK by the first n bytes of the tape (0 to 12; empty then; of GUSTS that are not told 0):");
        GustHome x = gusts(0, 1, 2, 3, 4, 5, 6, 7, 8, 9, 10);
        put(x, 0, 1, 2, 3, 4, 5, 6, 7, 8, 9, 10, 0);
        due("12, the last not told", x.check(12), -1);
        due("empty then", x.count(7), 0);
        put(x, 0, 1, 2, 3, 4, 5, 6, 7, 8, 9, 10, 1);
        due("12, the last not told and not 0", x.check(12), 11);
        put(x, 7);
        due("none of them", x.check(0), -1);
        due("empty then", x.count(7), 0);
        due("none of an empty tape", x.check(0), -1);
        says(36, "NONE: right; else the place of the first one that is not so;");
        put(x, 0, 1, 2, 3);
        due("right", x.check(4), -1);
        put(x, 1, 1, 3);
        due("the first of two", x.check(3), 0);
        put(x, 0, 1, 3);
        due("the last", x.check(3), 2);
        put(x, 0, 1, 3);
        due("not asked so far", x.check(2), -1);
        put(x, 0, 255);
        due("a byte above 127", x.check(2), 1);
        says(36, "-2: no such n, it has not so many (the tape stays).");
        DOC.answers("n", 0, 12, -2, n -> { GustHome y = new GustHome(); put(y, 1); return y.check(n); });
        due("an empty tape", x.check(1), -2);
        put(x, 0);
        due("n 13", x.check(13), -2);
        due("n -1", x.check(-1), -2);
        due("the tape stays", x.count(7), 20);
    }

    private static void count() {
        says(37, "0 THE MONTH, 1 TOYS, 2 WHISTLES, 3 told GUSTS (as bits), 4 told NURSES (as bits), 5 CLAUSES, 6 RULES, 7 bytes of the tape, 8 X, "
            + "9 told WINDS (as bits), 10 told HOMES (as bits), 11 told HOUSES (as bits);");
        GustHome x = new GustHome();
        for (int g = 0; g < 12; g++) x.gust(g, 1, 1, 0, 1);
        for (int k = 0; k < 5; k++) x.nurse(k, 1);
        for (int k = 0; k < 5; k++) x.house(k, 1, 1);
        for (int k = 0; k < 4; k++) x.wind(k, 1, 1);
        for (int k = 0; k < 10; k++) x.home(k, 1);
        law(x, "b20(1=1);x(1=1)" + Texts.times(14, ";e(1=2)", ""));
        rules(x, Texts.times(12, "(1=1)", ";"));
        x.seed(65535);
        x.months(2);
        for (int k = 0; k < 13; k++) x.feed(0, 0, 0, 0, 0);
        int[] is = {2, 480, 132, 4095, 31, 16, 12, 260, 65535, 15, 1023, 31};
        for (int k = 0; k < is.length; k++) due("what " + k, x.count(k), is[k]);
        says(37, "20 + a lesson what it NEEDS (as bits).");
        x.needs(0, 1022);
        x.needs(9, 511);
        due("lesson 0", x.count(20), 1022);
        due("lesson 9", x.count(29), 511);
        for (int l = 1; l < 9; l++) due("lesson " + l, x.count(20 + l), 0);
        says(37, "NONE for others.");
        for (int w : new int[] {-1, 12, 13, 19, 30, 31, Integer.MIN_VALUE, Integer.MIN_VALUE + 20, Integer.MAX_VALUE}) due("what " + w, x.count(w), -1);
    }
}
