/** Each promise of the document by its number: ordinary inputs, the edges that it names, wrong inputs. */
public final class PromiseTests {
    private static int wrong = 0;
    private static int asked = 0;

    private static void due(int promise, String what, int got, int want) {
        asked++;
        if (got != want) {
            wrong++;
            System.out.println("promise " + promise + ": " + what + " answered " + got + ", due is " + want);
        }
    }
    private static void due(int promise, String what, boolean got, boolean want) {
        due(promise, what, got ? 1 : 0, want ? 1 : 0);
    }

    public static void main(String[] args) {
        newObject();
        telling();
        moving();
        lessonsNeed();
        tape();
        lawForm();
        lawFaults();
        rulesForm();
        timetableForm();
        reckoning();
        letters();
        refused();
        asMuchAsMatters();
        winter();
        feedingAndTeaching();
        toys();
        quarrels();
        illness();
        rulesBroken();
        tried();
        lastMonth();
        whatIs();
        housed();
        winds();
        homes();
        taught();
        houses();
        escaped();
        nursed();
        round();
        added();
        keptAndUndone();
        checked();
        counted();
        System.out.println(asked + " answers asked, " + wrong + " wrong");
        if (wrong != 0) System.exit(1);
    }

    // ---- helpers ----

    private static void put(GustHome x, String t) { Texts.put(x, t); }
    private static void put(GustHome x, int... bytes) { Texts.put(x, bytes); }
    private static int law(GustHome x, String t) { return Texts.law(x, t); }
    private static int rules(GustHome x, String t) { return Texts.rules(x, t); }
    private static int table(GustHome x, int w, String t) { return Texts.table(x, w, t); }
    private static String times(int n, String t, String between) { return Texts.times(n, t, between); }
    /** The answer of an E, by how many toys one gust breaks (0 to 20). */
    private static int reckon(String e) {
        GustHome x = new GustHome();
        x.gust(0, 50, 4, 2, 1);
        if (law(x, "b" + e + "(1=1)") != 1) return -99;
        return x.tried(1, 1);
    }
    /** Whether a C holds, by toys that one gust breaks. */
    private static int asks(String c) {
        GustHome x = new GustHome();
        x.gust(0, 50, 4, 2, 1);
        if (law(x, "b1(" + c + ")") != 1) return -99;
        return x.tried(1, 1);
    }

    // ---- the promises ----

    private static void newObject() {
        GustHome x = new GustHome();
        int[] first = {0, 0, 0, 0, 0, 0, 0, 0, 1, 0, 0, 0, -1};
        for (int k = 0; k < first.length; k++) due(1, "count(" + k + ")", x.count(k), first[k]);
        int[] ward = {9, 0, -2, 0, 0, -2, -2, -1};
        for (int w = 0; w < 6; w++) for (int k = 0; k < ward.length; k++) due(1, "wardIs(" + w + ", " + k + ")", x.wardIs(w, k), ward[k]);
        for (int k = 20; k < 30; k++) due(1, "count(" + k + ")", x.count(k), 0);
        due(1, "undo()", x.undo(), false);
        due(1, "months(1)", x.months(1), 0);
    }

    private static void telling() {
        GustHome x = new GustHome();
        due(2, "highest", x.gust(11, 99, 9, 5, 9), true);
        due(2, "lowest", x.gust(0, 0, 0, 0, 0), true);
        int[][] bad = {{-1, 1, 1, 1, 1}, {12, 1, 1, 1, 1}, {1, -1, 1, 1, 1}, {1, 100, 1, 1, 1}, {1, 1, -1, 1, 1}, {1, 1, 10, 1, 1},
            {1, 1, 1, -1, 1}, {1, 1, 1, 6, 1}, {1, 1, 1, 1, -1}, {1, 1, 1, 1, 10}, {Integer.MIN_VALUE, 1, 1, 1, 1}};
        for (int[] b : bad) due(2, "gust of " + java.util.Arrays.toString(b), x.gust(b[0], b[1], b[2], b[3], b[4]), false);
        due(2, "told", x.count(3), 1 << 11 | 1);
        due(3, "name", x.name(11, 7), true);
        due(3, "again", x.name(11, 0), true);
        due(3, "quarter 8", x.name(11, 8), false);
        due(3, "quarter -1", x.name(11, -1), false);
        due(3, "not told", x.name(1, 3), false);
        due(3, "no such", x.name(12, 3), false);
        due(3, "it is", x.gustIs(11, 1), 0);
        due(5, "habit", x.habit(11, 9, true), true);
        due(5, "habit", x.habit(11, 0, true), true);
        due(5, "it has", x.habit(11, 0, true), true);
        due(5, "bits", x.gustIs(11, 5), 513);
        due(5, "no more", x.habit(11, 9, false), true);
        due(5, "it had none", x.habit(11, 9, false), true);
        due(5, "bits", x.gustIs(11, 5), 1);
        due(5, "habit 10", x.habit(11, 10, true), false);
        due(5, "habit -1", x.habit(11, -1, true), false);
        due(5, "not told", x.habit(1, 1, true), false);
        due(2, "in place of it", x.gust(11, 7, 6, 5, 4), true);
        int[] is = {7, -2, 6, 5, 4, 0, -1};
        for (int k = 0; k < is.length; k++) due(2, "gustIs(11, " + k + ")", x.gustIs(11, k), is[k]);
        // room is not looked at by gust
        x.ward(3, 0, 0, -1);
        due(2, "without room", x.gust(2, 1, 1, 3, 1), true);
    }

    private static void moving() {
        GustHome x = new GustHome();
        for (int g = 0; g < 4; g++) x.gust(g, 10, 1, 0, g);
        x.ward(1, 2, 0, -1);
        due(4, "there already", x.moves(0, 0), false);
        due(4, "moves", x.moves(0, 1), true);
        due(4, "moves", x.moves(1, 1), true);
        due(4, "full", x.moves(2, 1), false);
        due(4, "bits", x.wardIs(1, 3), 3);
        x.ward(1, 1, 0, -1);
        due(4, "more than full", x.moves(2, 1), false);
        x.ward(1, 3, 0, -1);
        due(4, "room again", x.moves(2, 1), true);
        due(4, "ward 6", x.moves(3, 6), false);
        due(4, "ward -1", x.moves(3, -1), false);
        due(4, "not told", x.moves(4, 1), false);
        due(4, "no such", x.moves(-1, 1), false);
        due(4, "ward", x.gustIs(2, 3), 1);
        due(6, "no nurse", x.ward(2, 0, 9, -1), true);
        due(6, "nurse not told", x.ward(2, 9, 0, 4), true);
        due(6, "nurse", x.wardIs(2, 2), 4);
        int[][] bad = {{-1, 1, 1, 1}, {6, 1, 1, 1}, {2, -1, 1, 1}, {2, 10, 1, 1}, {2, 1, -1, 1}, {2, 1, 10, 1}, {2, 1, 1, -2}, {2, 1, 1, 5}};
        for (int[] b : bad) due(6, "ward of " + java.util.Arrays.toString(b), x.ward(b[0], b[1], b[2], b[3]), false);
        due(6, "room", x.wardIs(2, 0), 9);
        due(7, "nurse", x.nurse(4, 9), true);
        due(7, "nurse 5", x.nurse(5, 1), false);
        due(7, "nurse -1", x.nurse(-1, 1), false);
        due(7, "asthma 10", x.nurse(0, 10), false);
        due(7, "asthma -1", x.nurse(0, -1), false);
        due(7, "told", x.count(4), 16);
        due(7, "in place", x.nurse(4, 3), true);
        due(17, "asthma", x.nurseIs(4, 0), 3);
        due(17, "ill", x.nurseIs(4, 1), 0);
        due(17, "what 2", x.nurseIs(4, 2), -1);
        due(17, "not told", x.nurseIs(0, 0), -1);
        due(17, "no such", x.nurseIs(5, 0), -1);
    }

    private static void lessonsNeed() {
        GustHome x = new GustHome();
        due(8, "needs", x.needs(9, 511), true);
        due(8, "itself", x.needs(9, 512), false);
        due(8, "beyond", x.needs(0, 1024), false);
        due(8, "below", x.needs(0, -2), false);
        due(8, "lesson 10", x.needs(10, 1), false);
        due(8, "lesson -1", x.needs(-1, 1), false);
        due(8, "it is", x.count(29), 511);
        due(8, "none", x.needs(9, 0), true);
        due(8, "it is", x.count(29), 0);
    }

    private static void tape() {
        GustHome x = new GustHome();
        for (int k = 1; k <= 13; k++) due(9, "feed " + k, x.feed(k, k, k, k, k), 20 * k);
        due(9, "feed 14", x.feed(1, 1, 1, 1, 1), -1);
        due(9, "has", x.count(7), 260);
        due(10, "n 0", x.law(0), -1);
        due(10, "n 241", x.law(241), -1);
        due(11, "n 0", x.rules(0), -1);
        due(11, "n 241", x.rules(241), -1);
        due(12, "n 0", x.timetable(0, 0), -1);
        due(12, "n 61", x.timetable(0, 61), -1);
        due(12, "ward 6", x.timetable(6, 1), -1);
        due(12, "ward -1", x.timetable(-1, 1), -1);
        due(9, "the tape stays", x.count(7), 260);
        due(10, "240 with a fault", x.law(240), -1000);
        due(10, "empty then", x.count(7), 0);
        due(10, "it has not so many", x.law(1), -1);
        // the highest byte of each int first, and the bytes one behind the other
        x.gust(0, 1, 0, 0, 0);
        x.gust(1, 2, 0, 0, 0);
        x.gust(2, 3, 0, 0, 0);
        x.gust(3, 4, 0, 0, 0);
        x.gust(4, 5, 0, 0, 0);
        x.feed(0x01020304, 0x05000000, 0, 0, 0);
        due(9, "order", x.check(12), -1);
        x.feed(0, 0, 0, 0, -1);
        due(9, "bytes above 127 are no minus", x.count(7), 20);
    }

    private static void lawForm() {
        GustHome x = new GustHome();
        due(10, "one", law(x, "f1(1=1)"), 1);
        due(10, "clauses", x.count(5), 1);
        due(10, "empty then", x.count(7), 0);
        due(10, "all letters", law(x, "f1(1=1);g1(1=1);b1(1=1);i1(1=1);e(1=1);x(1=1)"), 6);
        due(10, "signs", law(x, "b[[1+2]*3-4/5%6](!(1<2)&!!1>2|(1=1|2=2)&3=3)"), 1);
        due(10, "every letter of a factor", law(x, "bs+q+t+h+d+w+m(1=1);x(o=p);e(l=1);ia+n+w(1=1)"), 4);
        due(10, "sixteen", law(x, times(16, "x(1=1)", ";")), 16);
        due(10, "240 bytes", law(x, "f" + times(116, "1+", "") + "12(1=1)"), 1);
        due(10, "60 tests", law(x, "x(" + times(59, "1=1", "&") + ")"), 1);
        x.gust(0, 1, 1, 1, 1);
        x.gust(1, 1, 1, 1, 1);
        due(18, "60 tests hold", x.quarrel(0, 1), 1);
        due(10, "60 parts", law(x, "x(" + times(58, "1=2", "|") + "|s=1)"), 1);
        due(18, "the last of 60 parts holds", x.quarrel(0, 1), 1);
        due(10, "one byte", law(x, "f"), -1001);
        due(10, "a fault leaves it", law(x, "f1(1=1);"), -1008);
        due(10, "clauses", x.count(5), 1);
        due(10, "empty after a fault", x.count(7), 0);
        put(x, "f1(1=1)");
        due(10, "more than the tape has", x.law(21), -1);
        due(10, "the tape stays", x.count(7), 20);
        due(10, "then", x.law(7), 1);
    }

    private static void lawFaults() {
        String[] texts = {" f1(1=1)", "f1(1=1) ", "f1 (1=1)", "f(1=1)", "e1(1=1)", "x1(1=1)", "a1(1=1)", "F1(1=1)", "f1", "f1(", "f1(1", "f1(1=",
            "f1(1=1", "f1(1=1)x(1=1)", "f1(1=1);;", "f1()", "f1(1)", "f1(1=1=1)", "f1(1==1)", "f1(1=1&)", "f1(1=1|)", "f1(&1=1)", "f1((1)=1)",
            "f1((1=1)=1)", "f1([1=1])", "f1([1]=1]", "f1(!1)", "f1(1=!1)", "f-1(1=1)", "f1+(1=1)", "f1*(1=1)", "f[1(1=1)", "f[](1=1)", "f1](1=1)",
            "fk(1=1)", "f1(1=1))", ";f1(1=1)", "f1(1<>1)", "f12a(1=1)", "(1=1)", "f\u00e9(1=1)", "f1(1=1)\u0000"};
        int[] places = {0, 7, 2, 1, 1, 1, 0, 0, 2, 3, 4, 5,
            6, 7, 8, 3, 4, 6, 5, 7, 7, 3, 5,
            8, 5, 8, 5, 5, 1, 3, 3, 3, 2, 2,
            1, 7, 0, 5, 3, 0, 1, 7};
        for (int k = 0; k < texts.length; k++) due(10, "fault of " + texts[k], law(new GustHome(), texts[k]), -1000 - places[k]);
        due(10, "five digits", law(new GustHome(), "f99999(1=1)"), 1);
        due(10, "a sixth digit", law(new GustHome(), "f999999(1=1)"), -2006);
        due(10, "a sixth digit of naughts", law(new GustHome(), "f1(000000=1)"), -2008);
        due(10, "a sixth digit at the end", law(new GustHome(), "f1(1=123456"), -2010);
        String full = times(16, "x(1=1)", ";") + ";";
        due(10, "a 17th clause", law(new GustHome(), full + "x(1=1)"), -4000 - full.length());
        due(10, "a 17th letter at the end", law(new GustHome(), full + "f"), -4000 - full.length());
        due(10, "what can't stand there", law(new GustHome(), full + "y"), -1000 - full.length());
        due(10, "the end", law(new GustHome(), full), -1000 - full.length());
        // the ( of the clause is one of the six
        due(10, "six (", law(new GustHome(), "x((((((1=1))))))"), 1);
        due(10, "seven (", law(new GustHome(), "x(((((((1=1)))))))"), -5007);
        due(10, "five !", law(new GustHome(), "x(!!!!!1=1)"), 1);
        due(10, "six !", law(new GustHome(), "x(!!!!!!1=1)"), -5007);
        due(10, "five [ in a C", law(new GustHome(), "x([[[[[1]]]]]=1)"), 1);
        due(10, "six [ in a C", law(new GustHome(), "x([[[[[[1]]]]]]=1)"), -5007);
        due(10, "a seventh on the right side", law(new GustHome(), "x(1=[[[[[[1]]]]]])"), -5009);
        due(10, "six [ in the E of a clause", law(new GustHome(), "f[[[[[[1]]]]]](((((((1=1)))))))"), -5020);
        due(10, "six [ in the E, six ( in the C", law(new GustHome(), "f[[[[[[1]]]]]]((((((1=1))))))"), 1);
        due(10, "seven [ in the E of a clause", law(new GustHome(), "f[[[[[[[1]]]]]]](1=1)"), -5007);
        due(10, "a ! is open in its test", law(new GustHome(), "x(!!!![1]=1)"), 1);
        due(10, "a ! is open in its test", law(new GustHome(), "x(!!!!![1]=1)"), -5007);
        due(10, "till its TEST ends", law(new GustHome(), "x(!!!!!1=1&[[[[[1]]]]]=1)"), 1);
        due(10, "mixed", law(new GustHome(), "x(!(!([1]=1)))"), 1);
        due(10, "mixed, one more", law(new GustHome(), "x(!(!([[1]]=1)))"), -5007);
        due(10, "the first from the left", law(new GustHome(), "f1(1=1);f(999999=1)"), -1009);
    }

    private static void rulesForm() {
        GustHome x = new GustHome();
        due(11, "one", rules(x, "(n<3)"), 1);
        due(11, "three", rules(x, "(n<3);(v+u+z+w+m+a<9);(1=1)"), 3);
        due(11, "count", x.count(6), 3);
        due(11, "no letter ahead", rules(x, "x(1=1)"), -1000);
        due(11, "they stay", x.count(6), 3);
        due(11, "the end", rules(x, "(n<3);"), -1006);
        due(11, "no ;", rules(x, "(n<3)(n<3)"), -1005);
        due(11, "the end within", rules(x, "(n<3"), -1004);
        due(11, "sixth digit", rules(x, "(n<333333)"), -2008);
        due(11, "seven deep", rules(x, "(((((((1=1)))))))"), -5006);
        due(11, "six deep", rules(x, "((((((1=1))))))"), 1);
        due(11, "twelve", rules(x, times(12, "(1=1)", ";")), 12);
        due(11, "thirteen", rules(x, times(13, "(1=1)", ";")), -4072);
        due(11, "what can't stand there", rules(x, times(12, "(1=1)", ";") + ";x"), -1072);
        due(11, "count", x.count(6), 12);
        due(11, "240 bytes", rules(x, "(" + times(117, "1+", "") + "10<9)"), 1);
        due(11, "one byte", rules(x, "("), -1001);
        due(11, "all of the tape", rules(x, "(1=1);(1=1);(11=11)."), -1019);
        put(x, "(n<3)");
        due(11, "more than the tape has", x.rules(21), -1);
        due(11, "the tape stays", x.count(7), 20);
        due(11, "then", x.rules(5), 1);
    }

    private static void timetableForm() {
        GustHome x = new GustHome();
        due(12, "letters", table(x, 5, "AJ."), 3);
        due(12, "months", x.wardIs(5, 4), 3);
        due(12, "lesson", x.wardIs(5, 5), 0);
        due(12, "digits", table(x, 5, "2J9.3A"), 14);
        due(12, "lesson", x.wardIs(5, 5), 9);
        due(12, "brackets", table(x, 5, "(A)2(B3(C.))"), 15);
        due(12, "48", table(x, 5, "6(8A)"), 48);
        due(12, "48", table(x, 5, "9A9A9A9A9A3B"), 48);
        due(12, "60 bytes with 48 months", table(x, 5, times(12, "(AAA)", "")), 36);
        String[] texts = {"", "K", "a", "1A", "0A", "22A", "A2", "2", "(", "(A", "()", ")", "A)", "(A))", "2()", "A B", "A;", "(A(B)", "A2)", "((A)))"};
        int[] places = {0, 0, 0, 0, 0, 1, 2, 1, 1, 2, 1, 0, 1, 3, 2, 1, 1, 5, 2, 5};
        for (int k = 1; k < texts.length; k++) due(12, "fault of " + texts[k], table(new GustHome(), 0, texts[k]), -1000 - places[k]);
        due(12, "two ( are fine", table(x, 0, "((A))"), 1);
        due(12, "a third (", table(x, 0, "(((A)))"), -5002);
        due(12, "a third ( behind a digit", table(x, 0, "((2(A)))"), -5003);
        due(12, "more than 48, a letter", table(x, 0, "9A9A9A9A9A4B"), -6010);
        due(12, "more than 48, without a digit", table(x, 0, "9A9A9A9A9A3BC"), -6012);
        due(12, "asked when it ends", table(x, 0, "9A9A9A9A9A4"), -1011);
        due(12, "asked when it ends", table(x, 0, "9A9A9A9A9A4K"), -1011);
        due(12, "of brackets", table(x, 0, "A9(6B)"), -6001);
        due(12, "brackets that don't end", table(x, 0, "A9(6B"), -1005);
        due(12, "an inner one first", table(x, 0, "2(9A9A9A9A9A9A)"), -6012);
        due(12, "an inner one of brackets first", table(x, 0, "3(A7(7B))"), -6003);
        due(12, "an inner one, by what stands ahead of it", table(x, 0, "9A9A9A9A9A(A9B)"), -6012);
        due(12, "none yet", x.wardIs(0, 4), 1);
        put(x, "AB");
        due(12, "more than the tape has", x.timetable(0, 21), -1);
        due(12, "the tape stays", x.count(7), 20);
        due(12, "then", x.timetable(0, 2), 2);
        // over and over, from the first on when it is told
        int[] lessons = {0, 1, 1, -2, 0, 1};
        table(x, 0, "A2B.");
        for (int k = 0; k < lessons.length; k++) {
            due(12, "lesson in month " + k, x.wardIs(0, 5), lessons[k]);
            x.months(1);
        }
        table(x, 0, "C(D)E");
        due(12, "from the first on", x.wardIs(0, 5), 2);
        int[] nested = {0, 1, 2, 2, 1, 2, 2, 0, 1, 2, 2, 1, 2, 2, -2};
        due(12, "nested", table(x, 1, "2(A2(B2C))."), 15);
        for (int k = 0; k < nested.length; k++) {
            due(12, "nested lesson " + k, x.wardIs(1, 5), nested[k]);
            x.months(1);
        }
    }

    private static void reckoning() {
        String[] e = {"7", "007", "2+3*4", "20-3-4", "19/2*2", "19%5*3", "100/7%4", "[2+3]*4", "20", "21", "99999", "1-2", "2*[3-[4-5]]", "7/2", "[0-7]/2+9",
            "[0-7]%3+9", "s/5", "t", "w", "q", "65536*65536+5", "65536*32767+65535+1", "0-[65536*32768]/[0-1]"};
        int[] v = {7, 7, 14, 13, 18, 12, 2, 20, 20, 20, 20, 0, 8, 3, 6, 8, 10, 4, 2, 8, 5, 0, 0};
        for (int k = 0; k < e.length; k++) due(13, "E " + e[k], reckon(e[k]), v[k]);
        // the lowest number divided by -1 stays the lowest, and leaves 0
        due(13, "lowest / -1", asks("65536*32768/[0-1]=65536*32768"), 1);
        due(13, "lowest % -1", asks("65536*32768%[0-1]=0"), 1);
        String[] c = {"1=1", "1=2", "1<2", "2<1", "1<1", "2>1", "1>2", "1>1", "!1=2", "!!1=1", "!1=1", "1=1&1=2", "1=2|1=1", "1=1|1=1&1=2", "1=2&1=1|1=1",
            "1=2&(1=1|1=1)", "!(1=2|1=1)", "!1=2&1=2", "(1=1)", "(!(1=2))&1=1", "0-1<0", "s=50&t=4&w=2&q=8&h=0&d=0&m=0"};
        int[] h = {1, 0, 1, 0, 0, 1, 0, 0, 1, 1, 0, 0, 1, 1, 1, 0, 0, 0, 1, 1, 1, 1};
        for (int k = 0; k < c.length; k++) due(13, "C " + c[k], asks(c[k]), h[k]);
        GustHome x = new GustHome();
        x.gust(0, 50, 4, 2, 1);
        law(x, "b3(s<50);b4(s=50);b5(1=1)");
        due(10, "the first clause that holds", x.tried(1, 1), 4);
        law(x, "b3(s<50)");
        due(10, "none holds", x.tried(1, 1), 0);
        law(x, "f3(1=1)");
        due(10, "no such clause", x.tried(1, 1), 0);
    }

    private static void letters() {
        GustHome x = new GustHome();
        x.gust(3, 17, 6, 4, 1);
        x.name(3, 5);
        x.habit(3, 2, true);
        x.habit(3, 9, true);
        x.ward(4, 9, 7, -1);
        x.months(5);
        law(x, "b1(s=17&q=5&t=6&h=2&d=7&w=4&m=5)");
        due(10, "s q t h d w m in b", x.tried(1, 1), 1);
        law(x, "b1(o=0&p=0&l=0&a=0&n=0&v=0&u=0&z=0)");
        due(10, "others are 0 in b", x.tried(1, 1), 1);
        x.gust(5, 23, 1, 4, 1);
        law(x, "x(s=17&q=5&t=6&h=2&d=7&w=4&m=5&o=23&p=8)");
        due(18, "o p in x", x.quarrel(3, 5), 1);
        due(18, "the other way", x.quarrel(5, 3), 1);
        law(x, "x(l=0&a=0&n=0&v=0&u=0&z=0)");
        due(18, "others are 0 in x", x.quarrel(5, 3), 1);
        x.nurse(2, 8);
        x.ward(4, 9, 7, 2);
        law(x, "i7(w=4&a=8&n=2&m=5)");
        due(30, "w a n m in i", x.nursed(4, 16, 20), 7);
        law(x, "i7(s=0&q=0&t=0&h=0&d=0&o=0&p=0&l=0&v=0&u=0&z=0)");
        due(30, "others are 0 in i", x.nursed(4, 16, 20), 7);
        rules(x, "(!w=4|a=8&n=2&v=40&u=0&z=0&m=5)");
        due(16, "w a n v u z m in rules", x.wardIs(4, 6), -2);
        rules(x, "(s=0&q=0&t=0&h=0&d=0&o=0&p=0&l=0)");
        due(16, "others are 0 in rules", x.wardIs(4, 6), -2);
        rules(x, "(a=0)");
        due(16, "a of a ward without a nurse", x.wardIs(3, 6), -2);
        x.ward(3, 9, 0, 1);
        due(16, "a of a nurse that is not told", x.wardIs(3, 6), -2);
        due(16, "a of one that is", x.wardIs(4, 6), 0);
        table(x, 4, "H");
        rules(x, "(!w=0|a=8&n=1&v=9)");
        x.gust(0, 9, 0, 0, 0);
        x.ward(0, 9, 0, 2);
        due(16, "ward 0, gust 0, nurse 2", x.wardIs(0, 6), -2);
        law(x, "e(l=7&s=17&h=2&m=5)");
        due(13, "l in e", x.tried(1, 0), 1);
        law(x, "e(o=0&p=0&a=0&n=0&v=0&u=0&z=0)");
        due(13, "others are 0 in e", x.tried(1, 0), 2);
    }

    private static void refused() {
        due(13, "E / 0", reckon("5+1/0"), 0);
        due(13, "E % 0", reckon("5+1%0"), 0);
        due(13, "E / 0 within brackets, all of E is 0", reckon("5+[1/[t-4]]"), 0);
        due(13, "0 times what is refused", reckon("5+0*[1/0]"), 0);
        due(13, "C / 0", asks("1/0=0"), 0);
        due(13, "C / 0, not", asks("!1/0=0"), 0);
        due(13, "C / 0, not, within brackets", asks("!(1/0=0)"), 0);
        due(13, "C / 0, or", asks("1%0=0|1=1"), 0);
        due(13, "C / 0, within, or", asks("(1/0=0)|1=1"), 0);
        due(13, "0 / 0", asks("0/0=0"), 0);
        GustHome x = new GustHome();
        x.gust(0, 50, 4, 2, 1);
        law(x, "b3(1/0=0);b4(1=1)");
        due(13, "the next clause", x.tried(1, 1), 4);
        law(x, "b1/0(1=1);b4(1=1)");
        due(13, "no next clause for an E", x.tried(1, 1), 0);
        rules(x, "(1/0=0)");
        due(16, "a rule that is refused does not hold", x.wardIs(0, 6), 0);
    }

    private static void asMuchAsMatters() {
        due(13, "| that holds", asks("1=1|1/0=0"), 1);
        due(13, "| that doesn't", asks("1=2|1/0=0"), 0);
        due(13, "& that doesn't hold, | that does", asks("1=2&1/0=0|1=1"), 1);
        due(13, "& that holds", asks("1=1&1/0=0|1=1"), 0);
        due(13, "within brackets", asks("(1=1|1/0=0)&2=2"), 1);
        due(13, "not", asks("!(1=2&1/0=0)"), 1);
        due(13, "three &", asks("1=1&1=2&1/0=0|2=2"), 1);
        due(13, "three |", asks("1=2|1=1|1/0=0"), 1);
        due(13, "the right side is asked", asks("1=1/0|1=1"), 0);
    }

    private static void winter() {
        GustHome x = new GustHome();
        x.gust(0, 50, 0, 0, 0);
        x.gust(1, 5, 0, 0, 0);
        law(x, "g3(1=1)");
        int[] strength = {47, 44, 44, 44, 44, 44, 44, 44, 44, 44, 44, 41, 38, 35, 35};
        for (int k = 0; k < strength.length; k++) {
            x.months(1);
            due(13, "strength after month " + k, x.gustIs(0, 0), strength[k]);
        }
        due(13, "0 at least", x.gustIs(1, 0), 0);
        x = new GustHome();
        x.gust(0, 50, 0, 0, 0);
        law(x, "gs(1=1)");
        x.months(1);
        due(13, "20 at most", x.gustIs(0, 0), 30);
        GustHome y = new GustHome();
        y.gust(0, 50, 0, 0, 0);
        y.months(37);
        law(y, "bm+5(1=1)");
        rules(y, "(m=1)");
        due(13, "m through 12, in the law", y.tried(1, 1), 6);
        due(16, "m through 12, in rules", y.wardIs(0, 6), -2);
        law(x, "g5(m=1);g1(1=1)");
        x.months(1);
        due(13, "m is the month that goes by", x.gustIs(0, 0), 25);
    }

    private static void feedingAndTeaching() {
        GustHome x = new GustHome();
        x.gust(0, 50, 0, 0, 0);
        x.gust(1, 97, 0, 0, 0);
        x.gust(2, 50, 0, 1, 0);
        x.ward(0, 9, 1, 0);
        x.ward(1, 9, 0, 0);
        law(x, "f4+d(1=1);e(s>l)");
        table(x, 0, "A.B");
        due(13, "no told nurse", x.months(1), 0);
        due(13, "not fed", x.gustIs(0, 0), 50);
        due(13, "the timetable goes on", x.wardIs(0, 5), -2);
        x.nurse(0, 0);
        due(13, "no lesson", x.months(1), 0);
        due(13, "fed", x.gustIs(0, 0), 55);
        due(13, "99 at most", x.gustIs(1, 0), 99);
        due(13, "without dust not fed", x.gustIs(2, 0), 50);
        due(13, "B", x.months(1), 2);
        due(13, "learnt", x.gustIs(0, 5), 2);
        due(13, "another ward", x.gustIs(2, 5), 0);
        table(x, 0, "B");
        due(13, "they have it", x.months(1), 0);
        x.needs(3, 5);
        x.habit(0, 0, true);
        x.habit(0, 2, true);
        x.habit(1, 2, true);
        table(x, 0, "D");
        due(13, "only one that has what it needs", x.months(1), 1);
        due(13, "learnt", x.gustIs(0, 5), 15);
        due(13, "not learnt", x.gustIs(1, 5), 6);
        // fed first, then taught: e sees what feeding gave
        x = new GustHome();
        x.gust(0, 10, 0, 0, 0);
        x.ward(0, 9, 1, 0);
        x.nurse(0, 0);
        table(x, 0, "A");
        law(x, "f5(1=1);e(s=15)");
        due(13, "fed ahead of taught", x.months(1), 1);
        law(x, "f5(1=1)");
        table(x, 0, "B");
        due(13, "without e none learns", x.months(1), 0);
        law(x, "e(1=2);e(1=1)");
        due(13, "any e will do", x.months(1), 1);
        // weakened first, then fed
        x = new GustHome();
        x.gust(0, 1, 0, 0, 0);
        x.ward(0, 9, 1, 0);
        x.nurse(0, 0);
        law(x, "g9(1=1);f2(1=1)");
        x.months(1);
        due(13, "weakened ahead of fed", x.gustIs(0, 0), 2);
        // without dust a ward is taught all the same
        x.ward(0, 9, 0, 0);
        law(x, "e(1=1)");
        table(x, 0, "C");
        due(13, "taught without dust", x.months(1), 1);
        due(13, "n 0", x.months(0), -1);
        due(13, "n 61", x.months(61), -1);
        due(13, "n -1", x.months(-1), -1);
    }

    private static void toys() {
        GustHome x = new GustHome();
        x.gust(0, 50, 3, 0, 0);
        x.gust(7, 50, 8, 5, 0);
        law(x, "bt(1=1)");
        x.months(2);
        due(13, "toys", x.count(1), 22);
        law(x, "b50(1=1)");
        x.months(1);
        due(13, "20 at most each", x.count(1), 62);
        law(x, "b1-2(1=1)");
        x.months(1);
        due(13, "0 at least", x.count(1), 62);
    }

    private static void quarrels() {
        GustHome x = new GustHome();
        x.gust(0, 10, 8, 0, 0);
        x.gust(1, 20, 0, 0, 0);
        x.gust(2, 30, 0, 0, 0);
        x.gust(3, 40, 0, 1, 0);
        due(18, "no law", x.quarrel(0, 1), 0);
        law(x, "x(s<o&s=10)");
        due(18, "one way", x.quarrel(0, 1), 1);
        due(18, "the other way", x.quarrel(1, 0), 1);
        due(18, "neither", x.quarrel(1, 2), 0);
        due(18, "another ward", x.quarrel(0, 3), 1);
        due(18, "one twice", x.quarrel(1, 1), -1);
        due(18, "not told", x.quarrel(1, 4), -1);
        due(18, "no such", x.quarrel(12, 1), -1);
        due(18, "no such", x.quarrel(1, -1), -1);
        x.months(1);
        due(13, "whistles of two in one ward", x.count(2), 2);
        due(13, "temper 9 at most", x.gustIs(0, 2), 9);
        due(13, "temper one more", x.gustIs(1, 2), 1);
        due(13, "temper of one aside", x.gustIs(3, 2), 0);
        x.gust(1, 20, 9, 0, 0);
        x.months(1);
        due(13, "temper 9 at most, of the other, too", x.gustIs(1, 2), 9);
        law(x, "x(1=2);x(1=1)");
        due(18, "any x will do", x.quarrel(1, 2), 1);
        // each two asked when they come: 0 and 1 make 1 angry, so 1 and 2 quarrel
        x = new GustHome();
        x.gust(0, 10, 0, 0, 0);
        x.gust(1, 20, 0, 0, 0);
        x.gust(2, 30, 0, 0, 0);
        law(x, "x(s=10&o=20);x(s=20&t=1)");
        due(18, "not yet", x.quarrel(1, 2), 0);
        x.months(1);
        due(13, "asked when they come", x.count(2), 2);
    }

    private static void illness() {
        // 1 draws X = 39022, 61087, 20196, 45005: 2, 7, 6, 5
        GustHome x = new GustHome();
        x.gust(0, 10, 0, 0, 0);
        x.gust(1, 10, 0, 1, 0);
        x.ward(0, 9, 0, 0);
        x.ward(1, 9, 0, 1);
        x.ward(2, 9, 0, 2);
        x.nurse(0, 3);
        x.nurse(1, 2);
        x.nurse(2, 2);
        law(x, "i3(w=0);i7(1=1)");
        due(14, "nurses that fall ill", x.tried(1, 3), 1);
        x.months(1);
        due(13, "two draws", x.count(8), 61087);
        due(13, "2 is below 3", x.nurseIs(0, 1), 4);
        due(13, "7 is not below 7", x.nurseIs(1, 1), 0);
        due(13, "a ward without a gust", x.nurseIs(2, 1), 0);
        x.months(1);
        due(13, "one draw, one is ill", x.count(8), 20196);
        due(13, "a month less", x.nurseIs(0, 1), 3);
        due(13, "6 is below 7", x.nurseIs(1, 1), 3);
        x.nurse(0, 3);
        due(7, "told anew, not ill", x.nurseIs(0, 1), 0);
        // ill for one month: it is well at the end of it, and may fall ill anew then
        x = new GustHome();
        x.gust(0, 10, 0, 0, 0);
        x.ward(0, 9, 1, 0);
        x.nurse(0, 0);
        law(x, "i10(1=1);f1(1=1)");
        x.months(1);
        due(13, "fed ahead of it", x.gustIs(0, 0), 11);
        due(13, "ill for a month", x.nurseIs(0, 1), 1);
        x.months(1);
        due(13, "not fed while ill", x.gustIs(0, 0), 11);
        due(13, "well, and ill anew", x.nurseIs(0, 1), 1);
        due(13, "drawn again", x.count(8), 61087);
        // one nurse of two wards draws once if it falls ill in the first
        x = new GustHome();
        x.gust(0, 10, 0, 0, 0);
        x.gust(1, 10, 0, 1, 0);
        x.ward(0, 9, 0, 4);
        x.ward(1, 9, 0, 4);
        x.nurse(4, 9);
        law(x, "i10(w=0)");
        x.months(1);
        due(13, "one draw", x.count(8), 39022);
        due(13, "ill for ten", x.nurseIs(4, 1), 10);
        due(33, "seed", x.seed(65535), true);
        due(33, "X", x.count(8), 65535);
        due(33, "seed", x.seed(0), true);
        due(33, "65536", x.seed(65536), false);
        due(33, "-1", x.seed(-1), false);
        due(33, "X", x.count(8), 0);
        x.nurse(4, 9);
        x.months(1);
        due(33, "the next X", x.count(8), 13849);
    }

    private static void rulesBroken() {
        GustHome x = new GustHome();
        x.gust(0, 10, 0, 2, 0);
        x.gust(1, 10, 0, 3, 0);
        x.gust(2, 10, 0, 3, 0);
        rules(x, "(n<9);(n<2|m<2);(!w=1|m<1)");
        int[] broken = {-2, -2, -2, -2};
        for (int w = 0; w < 4; w++) due(16, "rule in ward " + w, x.wardIs(w, 6), broken[w]);
        due(14, "months in which one was broken", x.tried(4, 4), 3);
        due(14, "the first rule in the first of these", x.tried(4, 5), 2);
        due(14, "in which ward", x.tried(4, 6), 1);
        due(14, "none", x.tried(1, 5), -2);
        due(14, "none", x.tried(1, 6), -2);
        x.months(2);
        due(16, "the first one there now", x.wardIs(3, 6), 1);
        due(16, "the first one there now", x.wardIs(1, 6), 2);
        due(14, "by rules, then wards", x.tried(1, 5), 1);
        due(14, "by rules, then wards", x.tried(1, 6), 3);
        // the month counts while the rules are asked, before it is one more
        rules(x, "(m=2)");
        due(14, "m at the end of a month", x.tried(1, 4), 0);
        due(14, "m at the end of a month", x.tried(2, 4), 1);
        due(14, "the lowest ward", x.tried(2, 6), 0);
        // what the month did is seen
        law(x, "b2(1=1)");
        rules(x, "(u<1)");
        due(14, "toys of this month", x.tried(1, 4), 1);
    }

    private static void tried() {
        GustHome x = new GustHome();
        x.gust(0, 30, 0, 0, 0);
        x.gust(1, 30, 0, 0, 0);
        x.ward(0, 9, 1, 0);
        x.nurse(0, 5);
        law(x, "f2(1=1);g1(1=1);b1(1=1);i1(1=1);e(1=1);x(1=1)");
        table(x, 0, "AB");
        x.months(1);
        due(14, "learnt", x.tried(3, 0), 2);
        due(14, "toys of these months", x.tried(3, 1), 6);
        due(14, "whistles of these months", x.tried(3, 2), 3);
        due(14, "strength then", x.tried(3, 10), 36);
        due(14, "strength then", x.tried(3, 11), 36);
        due(14, "what 7", x.tried(3, 7), -1);
        due(14, "what 9", x.tried(3, 9), -1);
        due(14, "what -1", x.tried(3, -1), -1);
        due(14, "not told", x.tried(3, 12), -1);
        due(14, "what 22", x.tried(3, 22), -1);
        due(14, "n 0", x.tried(0, 0), -1);
        due(14, "n 61", x.tried(61, 0), -1);
        due(14, "nothing is changed: month", x.count(0), 1);
        due(14, "nothing is changed: toys", x.count(1), 2);
        due(14, "nothing is changed: whistles", x.count(2), 1);
        due(14, "nothing is changed: X", x.count(8), 39022);
        due(14, "nothing is changed: place", x.wardIs(0, 5), 1);
        due(14, "nothing is changed: strength", x.gustIs(0, 0), 31);
        due(14, "nothing is changed: habits", x.gustIs(0, 5), 1);
        due(13, "the same when they go by", x.months(3), 2);
        due(13, "strength", x.gustIs(0, 0), 36);
    }

    private static void lastMonth() {
        GustHome x = new GustHome();
        x.gust(0, 30, 0, 0, 0);
        law(x, "b1(1=1)");
        for (int k = 0; k < 166; k++) x.months(60);
        due(13, "month", x.count(0), 9960);
        due(14, "as many as can", x.tried(60, 1), 39);
        x.months(60);
        due(13, "9999 at most", x.count(0), 9999);
        due(13, "toys", x.count(1), 9999);
        due(13, "then none goes by", x.months(1), 0);
        due(13, "toys", x.count(1), 9999);
        due(14, "then none goes by", x.tried(1, 1), 0);
        due(14, "wrong n all the same", x.tried(0, 1), -1);
    }

    private static void whatIs() {
        GustHome x = new GustHome();
        x.gust(4, 12, 3, 2, 6);
        x.name(4, 0);
        x.habit(4, 3, true);
        int[] is = {12, 0, 3, 2, 6, 8};
        for (int k = 0; k < 6; k++) due(15, "gustIs(4, " + k + ")", x.gustIs(4, k), is[k]);
        due(15, "what 6", x.gustIs(4, 6), -1);
        due(15, "what -1", x.gustIs(4, -1), -1);
        due(15, "not told", x.gustIs(3, 0), -1);
        due(15, "no such", x.gustIs(12, 0), -1);
        due(15, "no such", x.gustIs(-1, 0), -1);
        x.ward(2, 3, 4, 0);
        int[] ward = {3, 4, 0, 16, 0, -2, -2};
        for (int k = 0; k < 7; k++) due(16, "wardIs(2, " + k + ")", x.wardIs(2, k), ward[k]);
        due(16, "what 7", x.wardIs(2, 7), -1);
        due(16, "what -1", x.wardIs(2, -1), -1);
        due(16, "no such", x.wardIs(6, 0), -1);
        due(16, "no such", x.wardIs(-1, 0), -1);
    }

    private static void housed() {
        GustHome x = new GustHome();
        for (int g = 0; g < 8; g++) x.gust(g, g, 0, 0, 0);
        // neighbours by number quarrel
        law(x, "x(s=o+1)");
        due(19, "two wards", x.housed(7, 3, 20), 0);
        due(19, "least row", x.housed(7, 3, 0), 0);
        due(19, "least row", x.housed(7, 3, 1), 1);
        due(19, "least row", x.housed(7, 3, 2), 0);
        due(19, "other wards", x.housed(7, 48, 1), 5);
        due(19, "one ward", x.housed(63, 4, 20), 5);
        due(19, "one ward", x.housed(63, 4, 5), 2);
        x.ward(2, 3, 0, -1);
        x.ward(3, 2, 0, -1);
        x.ward(4, 1, 0, -1);
        due(19, "just room", x.housed(63, 28, 20), 0);
        int[] row = {2, 3, 2, 3, 2, 4};
        for (int g = 0; g < 6; g++) due(19, "row of " + g, x.housed(63, 28, g), row[g]);
        due(19, "no room", x.housed(63, 12, 20), -2);
        due(19, "no room", x.housed(63, 12, 3), -2);
        due(19, "no room, no such what", x.housed(63, 12, 6), -1);
        x.ward(4, 0, 0, -1);
        due(19, "none in there", x.housed(1, 16, 20), -2);
        due(19, "none in there", x.housed(3, 24, 20), 1);
        due(19, "what is not of them", x.housed(7, 3, 3), -1);
        due(19, "what 21", x.housed(7, 3, 21), -1);
        due(19, "what -1", x.housed(7, 3, -1), -1);
        due(19, "no gusts", x.housed(0, 3, 20), -1);
        due(19, "seven gusts", x.housed(127, 3, 20), -1);
        due(19, "not told", x.housed(257, 3, 20), -1);
        due(19, "no such gust", x.housed(4097, 3, 20), -1);
        due(19, "below 0", x.housed(-1, 3, 20), -1);
        due(19, "no wards", x.housed(3, 0, 20), -1);
        due(19, "four wards", x.housed(3, 15, 20), -1);
        due(19, "no such ward", x.housed(3, 65, 20), -1);
        due(19, "no such ward", x.housed(3, 64, 20), -1);
        due(19, "below 0", x.housed(3, Integer.MIN_VALUE, 20), -1);
        // asked as they are now: in ward 0, not in the one where they would be
        law(x, "x(w=0&s+o=3)");
        due(19, "as they are now", x.housed(6, 2, 20), 1);
        due(19, "nothing is changed", x.wardIs(0, 3), 255);
    }

    private static void winds() {
        GustHome x = new GustHome();
        due(20, "highest", x.wind(3, 7, 255), true);
        int[][] bad = {{-1, 1, 1}, {4, 1, 1}, {0, -1, 1}, {0, 8, 1}, {0, 1, -1}, {0, 1, 256}};
        for (int[] b : bad) due(20, "wind of " + java.util.Arrays.toString(b), x.wind(b[0], b[1], b[2]), false);
        due(20, "told", x.count(9), 8);
        int[] quarters = {6, 7, 0, 5, 1};
        int[] goes = {3, 3, 3, 4, 4};
        for (int k = 0; k < 5; k++) {
            x.gust(0, 10, 0, 0, 0);
            x.name(0, quarters[k]);
            due(21, "quarter " + quarters[k], x.leaving(1, 0), goes[k]);
        }
        x.gust(0, 0, 0, 0, 0);
        due(21, "without a quarter", x.leaving(1, 0), 4);
        due(21, "none goes", x.leaving(1, 20), 0);
        due(21, "strength of none", x.leaving(1, 21), 0);
        // 0 and 7 are beside each other, the other way
        x.wind(3, 0, 255);
        x.name(0, 7);
        due(21, "7 with 0", x.leaving(1, 0), 3);
        // most go, then most strength, then the least row
        x = new GustHome();
        int[] strength = {60, 30, 30, 40, 99};
        for (int g = 0; g < 5; g++) {
            x.gust(g, strength[g], 0, 0, g);
            x.name(g, 2);
        }
        x.wind(1, 2, 70);
        due(21, "two rather than one", x.leaving(7, 20), 2);
        due(21, "two rather than one", x.leaving(7, 0), 4);
        due(21, "most strength", x.leaving(15, 21), 70);
        due(21, "least row of like ones", x.leaving(15, 1), 1);
        due(21, "least row of like ones", x.leaving(15, 2), 4);
        due(21, "least row of like ones", x.leaving(15, 3), 1);
        due(21, "too strong", x.leaving(16, 20), 0);
        x.wind(0, 3, 99);
        due(21, "the limit itself", x.leaving(16, 4), 0);
        x.wind(2, 3, 99);
        due(21, "least wind", x.leaving(24, 4), 2);
        due(21, "least wind", x.leaving(24, 3), 0);
        // a gale is not parted
        x = new GustHome();
        x.gust(0, 50, 0, 0, 1);
        x.gust(1, 50, 0, 0, 2);
        x.gust(2, 50, 0, 0, 1);
        x.gust(3, 50, 0, 0, 1);
        for (int g = 0; g < 4; g++) x.name(g, 4);
        x.wind(0, 4, 50);
        x.wind(1, 4, 100);
        due(21, "both with one wind", x.leaving(7, 0), 1);
        due(21, "both with one wind", x.leaving(7, 1), 0);
        due(21, "both with one wind", x.leaving(7, 2), 1);
        due(21, "three are too many: all stay", x.leaving(15, 20), 1);
        due(21, "three are too many: all stay", x.leaving(13, 20), 0);
        due(21, "one of them alone", x.leaving(8, 20), 1);
        GustHome y = new GustHome();
        for (int g = 0; g < 6; g++) {
            y.gust(g + 6, 10 + g, 0, 0, g);
            y.name(g + 6, 7);
        }
        y.wind(2, 7, 63);
        due(21, "six", y.leaving(63 << 6, 20), 5);
        due(21, "six, most strength", y.leaving(63 << 6, 21), 63);
        due(21, "six, who stays", y.leaving(63 << 6, 8), 4);
        due(22, "six", y.letGo(63 << 6), 59 << 6);
        due(22, "six", y.count(3), 4 << 6);
        due(21, "what is not of them", x.leaving(7, 3), -1);
        due(21, "what 22", x.leaving(7, 22), -1);
        due(21, "what -1", x.leaving(7, -1), -1);
        due(21, "no gusts", x.leaving(0, 20), -1);
        due(21, "not told", x.leaving(16, 20), -1);
        for (int g = 4; g < 7; g++) x.gust(g, 1, 1, 1, 9);
        due(21, "seven", x.leaving(127, 20), -1);
        due(22, "seven", x.letGo(127), -1);
        due(22, "not told", x.letGo(128), -1);
        due(22, "no gusts", x.letGo(0), -1);
        due(22, "none goes", x.letGo(48), 0);
        due(22, "who goes", x.letGo(7 | 16), 7);
        due(22, "told no more", x.count(3), 120);
        due(22, "told no more", x.gustIs(0, 0), -1);
    }

    private static void homes() {
        GustHome x = new GustHome();
        due(23, "home", x.home(9, 1023), true);
        due(23, "home 10", x.home(10, 1), false);
        due(23, "home -1", x.home(-1, 1), false);
        due(23, "habits 1024", x.home(0, 1024), false);
        due(23, "habits -1", x.home(0, -1), false);
        due(23, "told", x.count(10), 512);
        x.gust(0, 1, 1, 1, 1);
        due(24, "all fit where nothing is asked", x.from(0, 0, 0), 512);
        due(24, "one home: none tells", x.from(0, 0, 1), -2);
        due(24, "no home fits", x.from(0, 1, 0), 0);
        due(24, "no home fits", x.from(0, 1, 1), -2);
        x = new GustHome();
        x.gust(0, 1, 1, 1, 1);
        x.habit(0, 3, true);
        x.home(0, 8);
        x.home(1, 9);
        x.home(2, 12);
        x.home(3, 13);
        x.home(4, 7);
        due(24, "fit", x.from(0, 8, 0), 15);
        due(24, "halves: the lowest", x.from(0, 8, 1), 0);
        due(24, "greater part of 3 and 2", x.from(0, 0, 1), 0);
        due(24, "without habit 0", x.from(0, 9, 0), 5);
        due(24, "next", x.from(0, 9, 1), 2);
        due(24, "one left", x.from(0, 13, 0), 1);
        due(24, "one left", x.from(0, 13, 1), -2);
        due(24, "all asked", x.from(0, 1023, 0), 1);
        due(24, "what 2", x.from(0, 1, 2), -1);
        due(24, "what -1", x.from(0, 1, -1), -1);
        due(24, "asked 1024", x.from(0, 1024, 0), -1);
        due(24, "asked -1", x.from(0, -1, 0), -1);
        due(24, "not told", x.from(1, 1, 0), -1);
        // the smallest greater part, not the first that tells
        x.home(4, 8);
        x.home(5, 8 + 16);
        x.home(0, 8 + 1 + 16);
        x.home(1, 8 + 16);
        x.home(2, 8);
        x.home(3, 8);
        due(24, "smallest greater part", x.from(0, 0, 1), 4);
        x.home(0, 8);
        x.home(1, 8);
        x.home(5, 8);
        due(24, "like homes: nothing tells", x.from(0, 0, 1), -2);
    }

    private static void taught() {
        GustHome x = new GustHome();
        x.gust(0, 1, 1, 1, 1);
        due(25, "without needs, by numbers", x.taught(0, 1 << 7 | 1 << 2, 0), 2);
        due(25, "without needs, by numbers", x.taught(0, 1 << 7 | 1 << 2, 1), 7);
        due(25, "none", x.taught(0, 0, 20), 0);
        due(25, "none", x.taught(0, 0, 0), -4);
        x.needs(1, 1 << 9);
        x.needs(9, 1 << 4);
        due(25, "how many", x.taught(0, 2 | 1 << 5, 20), 4);
        int[] row = {4, 5, 9, 1};
        for (int k = 0; k < 4; k++) due(25, "place " + k, x.taught(0, 2 | 1 << 5, k), row[k]);
        due(25, "no such place", x.taught(0, 2 | 1 << 5, 4), -4);
        due(25, "no such place", x.taught(0, 2 | 1 << 5, 19), -4);
        due(25, "no such place", x.taught(0, 2 | 1 << 5, 21), -4);
        x.habit(0, 9, true);
        due(25, "what it has is not asked further", x.taught(0, 2, 20), 1);
        x.habit(0, 9, false);
        x.needs(4, 2);
        due(25, "they need each other", x.taught(0, 2, 20), -2);
        due(25, "they need each other", x.taught(0, 2, 0), -2);
        due(25, "others don't", x.taught(0, 1, 20), 1);
        x.habit(0, 1, true);
        due(25, "it has one of them", x.taught(0, 1 << 9, 20), 2);
        due(25, "not told", x.taught(1, 1, 20), -1);
        due(25, "no such", x.taught(12, 1, 20), -1);
        due(25, "habits 1024", x.taught(0, 1024, 20), -1);
        due(25, "habits -1", x.taught(0, -1, 20), -1);
        // a chain through all ten, against the numbers
        x = new GustHome();
        x.gust(0, 1, 1, 1, 1);
        for (int k = 0; k < 9; k++) x.needs(k, 1 << k + 1);
        due(25, "chain", x.taught(0, 1, 20), 10);
        due(25, "chain", x.taught(0, 1, 0), 9);
        due(25, "chain", x.taught(0, 1, 9), 0);
    }

    private static void houses() {
        GustHome x = new GustHome();
        due(26, "house", x.house(4, 99, 1023), true);
        int[][] bad = {{-1, 1, 1}, {5, 1, 1}, {0, -1, 1}, {0, 100, 1}, {0, 1, -1}, {0, 1, 1024}};
        for (int[] b : bad) due(26, "house of " + java.util.Arrays.toString(b), x.house(b[0], b[1], b[2]), false);
        due(26, "told", x.count(11), 16);
        for (int g = 0; g < 7; g++) x.gust(g, 10, 0, 0, 0);
        due(27, "of like ones the lower number", x.placed(6, 1), 4);
        due(27, "nowhere", x.placed(6, 2), -2);
        x.gust(2, 11, 0, 0, 0);
        due(27, "the stronger", x.placed(6, 2), 4);
        x.habit(1, 7, true);
        due(27, "more of the habits it wants", x.placed(6, 1), 4);
        x.house(4, 99, 3);
        due(27, "habits that it does not want", x.placed(6, 1), -2);
        x.house(1, 99, 0);
        due(27, "of like houses the lowest first", x.placed(6, 2), 1);
        due(27, "of like houses the lowest first", x.placed(6, 1), 4);
        x.house(0, 98, 0);
        due(27, "the lower house last", x.placed(14, 3), 0);
        due(27, "what is not of them", x.placed(6, 3), -1);
        due(27, "what 20", x.placed(6, 20), -1);
        due(27, "no gusts", x.placed(0, 0), -1);
        due(27, "seven", x.placed(127, 0), -1);
        due(27, "not told", x.placed(129, 0), -1);
        due(27, "six", x.placed(63, 0), 4);
        due(27, "six", x.placed(63, 2), 1);
        due(27, "six", x.placed(63, 5), -2);
        put(x, 4, 0, 1, 255, 255, 255);
        due(28, "six", x.fair(63), 0);
        put(x, 0, 4, 1, 255, 255, 255);
        due(28, "six", x.fair(63), 1);
        x.house(0, 98, 128 + 64);
        x.habit(3, 6, true);
        x.habit(3, 7, true);
        due(27, "two habits rather than one", x.placed(59, 3), 0);
        x.house(0, 98, 0);
        // fair: houses 1, 4, 0 by liking; gusts 2, 1, 3 are liked by 1
        put(x, 4, 1, 0);
        due(28, "as placed", x.fair(14), 0);
        put(x, 1, 4, 0);
        due(28, "the best two parted", x.fair(14), 1);
        put(x, 255, 255, 255);
        due(28, "all nowhere", x.fair(14), 9);
        put(x, 255, 1, 4);
        due(28, "one out, who is liked better than the third", x.fair(14), 2);
        put(x, 2, 1, 0);
        due(28, "not told", x.fair(14), -2);
        put(x, 5, 1, 0);
        due(28, "no such house", x.fair(14), -2);
        put(x, 254, 1, 0);
        due(28, "no such house", x.fair(14), -2);
        put(x, 1, 1, 0);
        due(28, "one twice", x.fair(14), -2);
        due(28, "empty then", x.count(7), 0);
        due(28, "it has not so many", x.fair(14), -1);
        put(x, 4, 1, 0);
        due(28, "no gusts", x.fair(0), -1);
        due(28, "seven", x.fair(127), -1);
        due(28, "not told", x.fair(128), -1);
        due(28, "the tape stays", x.count(7), 20);
        due(28, "then", x.fair(14), 0);
        x = new GustHome();
        x.gust(0, 1, 1, 1, 1);
        due(27, "no house", x.placed(1, 0), -2);
        put(x, 255);
        due(28, "no house", x.fair(1), 0);
    }

    private static int escape(int n, int speed, int hour, int what, int... bytes) {
        GustHome x = new GustHome();
        put(x, bytes);
        int answer = x.escaped(n, speed, hour, what);
        return answer == -1 || x.count(7) == 0 ? answer : -99;
    }
    private static void escaped() {
        due(29, "seen then, low", escape(1, 5, 10, 0, 10, 20, 30), 20);
        due(29, "seen then, high", escape(1, 5, 10, 1, 10, 20, 30), 30);
        due(29, "later", escape(1, 5, 12, 1, 10, 20, 30), 40);
        due(29, "earlier", escape(1, 5, 8, 0, 10, 20, 30), 10);
        due(29, "0 at least", escape(1, 99, 255, 0, 0, 20, 30), 0);
        due(29, "250 at most", escape(1, 99, 255, 1, 0, 20, 30), 250);
        due(29, "all in nets of 2", escape(1, 99, 255, 2, 0, 20, 30), 126);
        due(29, "all in nets of 99", escape(1, 99, 255, 99, 0, 20, 30), 3);
        due(29, "eleven in nets of 11", escape(1, 0, 255, 11, 0, 20, 30), 1);
        due(29, "eleven in nets of 10", escape(1, 0, 255, 10, 0, 20, 30), 2);
        due(29, "one spot", escape(1, 0, 0, 2, 0, 250, 250), 1);
        due(29, "narrowed by a later one", escape(2, 1, 0, 0, 0, 0, 100, 10, 60, 70), 50);
        due(29, "narrowed by a later one", escape(2, 1, 0, 1, 0, 0, 100, 10, 60, 70), 80);
        due(29, "far sightings, just so", escape(2, 5, 0, 0, 0, 0, 0, 10, 50, 50), 0);
        due(29, "too far", escape(2, 5, 0, 0, 0, 0, 0, 10, 51, 51), -2);
        due(29, "too far, even where it was before", escape(3, 1, 0, 0, 0, 5, 5, 10, 5, 5, 11, 9, 9), -2);
        due(29, "three, each two but not all through one spot", escape(3, 1, 5, 0, 0, 0, 9, 5, 0, 250, 10, 1, 1), 0);
        due(29, "eight", escape(8, 1, 7, 1, 0, 0, 9, 1, 0, 9, 2, 0, 9, 3, 0, 9, 4, 0, 9, 5, 0, 9, 6, 0, 9, 7, 0, 9), 9);
        due(29, "from above to", escape(1, 5, 10, 0, 10, 31, 30), -3);
        due(29, "a spot above 250", escape(1, 5, 10, 0, 10, 20, 251), -3);
        due(29, "spots above 250", escape(1, 5, 10, 0, 10, 251, 251), -3);
        due(29, "hours alike", escape(2, 5, 10, 0, 10, 20, 30, 10, 20, 30), -3);
        due(29, "hours falling", escape(2, 5, 10, 0, 10, 20, 30, 9, 20, 30), -3);
        due(29, "only n of them are looked at", escape(1, 5, 10, 0, 10, 20, 30, 9, 20, 10), 20);
        GustHome x = new GustHome();
        put(x, 10, 20, 30);
        int[][] bad = {{0, 5, 10, 0}, {9, 5, 10, 0}, {1, -1, 10, 0}, {1, 100, 10, 0}, {1, 5, -1, 0}, {1, 5, 256, 0}, {1, 5, 10, -1}, {1, 5, 10, 100}, {7, 5, 10, 0}};
        for (int[] b : bad) due(29, "escaped of " + java.util.Arrays.toString(b), x.escaped(b[0], b[1], b[2], b[3]), -1);
        GustHome y = new GustHome();
        put(y, times(40, "A", ""));
        due(29, "nine", y.escaped(9, 5, 10, 0), -1);
        due(29, "the tape stays", y.count(7), 40);
        due(29, "the tape stays", x.count(7), 20);
        due(29, "20 bytes hold six", x.escaped(6, 99, 10, 0), -3);
        due(29, "empty then", x.count(7), 0);
    }

    private static void nursed() {
        GustHome x = new GustHome();
        x.nurse(0, 9);
        x.nurse(1, 4);
        x.nurse(4, 1);
        x.gust(0, 1, 1, 2, 1);
        x.gust(1, 1, 1, 2, 1);
        x.gust(2, 1, 1, 5, 1);
        due(30, "no law", x.nursed(19, 7, 20), 0);
        due(30, "no law, least row", x.nursed(19, 7, 0), 0);
        due(30, "no law, least row", x.nursed(19, 7, 2), 4);
        law(x, "ia*n(1=1)");
        due(30, "the one with little asthma where many are", x.nursed(19, 37, 20), 6);
        due(30, "ward 0", x.nursed(19, 37, 0), 0);
        due(30, "ward 2", x.nursed(19, 37, 2), 4);
        due(30, "ward 5", x.nursed(19, 37, 5), 1);
        due(30, "10 at most each", x.nursed(1, 4, 20), 10);
        due(30, "ward 2 alone", x.nursed(2, 4, 2), 1);
        due(30, "what is no ward of them", x.nursed(2, 4, 1), -1);
        due(30, "what 21", x.nursed(2, 4, 21), -1);
        due(30, "not as many", x.nursed(3, 4, 20), -1);
        due(30, "not told", x.nursed(4, 4, 20), -1);
        due(30, "none", x.nursed(0, 0, 20), -1);
        due(30, "no such nurse", x.nursed(32, 4, 20), -1);
        due(30, "no such ward", x.nursed(1, 64, 20), -1);
        due(30, "below 0", x.nursed(-1, -1, 20), -1);
        x.nurse(2, 0);
        x.nurse(3, 0);
        due(30, "five", x.nursed(31, 62, 20), 0);
        due(30, "five, least row", x.nursed(31, 62, 2), 2);
        due(30, "five, least row", x.nursed(31, 62, 1), 0);
        due(30, "five, least row", x.nursed(31, 62, 5), 3);
        due(30, "six wards", x.nursed(31, 63, 20), -1);
    }

    private static void round() {
        GustHome x = new GustHome();
        for (int g = 0; g < 9; g++) x.gust(g, g, 0, 0, 0);
        due(31, "three", x.round(7, 20), 2);
        due(31, "eight", x.round(255, 20), 5040);
        due(31, "first", x.round(255, 7), 7);
        due(31, "not from 0", x.round(7 << 3, 0), 3);
        law(x, "x(s=o+1)");
        due(31, "neighbours by number apart, four", x.round(15, 20), 0);
        due(31, "there is none", x.round(15, 3), -2);
        due(31, "five: 0 2 4 1 3 and back", x.round(31, 20), 2);
        int[] row = {0, 2, 4, 1, 3};
        for (int k = 0; k < 5; k++) due(31, "place " + k, x.round(31, k), row[k]);
        // the last one stands beside the first one
        law(x, "x(s=0&o=4)");
        due(31, "last beside first", x.round(1 | 2 | 16, 20), 0);
        due(31, "last not beside first", x.round(31, 4), 3);
        due(31, "two", x.round(3, 20), -1);
        due(31, "nine", x.round(511, 20), -1);
        due(31, "not told", x.round(3 | 512, 20), -1);
        due(31, "place 3 of three", x.round(7, 3), -1);
        due(31, "place -1", x.round(7, -1), -1);
        due(31, "what 21", x.round(7, 21), -1);
        due(31, "no such place where there is none", x.round(19, 3), -1);
    }

    private static void added() {
        int[] east = {0, 3, 7, 3, 0, -3, -7, -3};
        int[] north = {7, 3, 0, -3, -7, -3, 0, 3};
        for (int q = 0; q < 8; q++) {
            GustHome x = new GustHome();
            x.gust(0, 7, 0, 2, 0);
            x.name(0, q);
            due(32, "east of " + q, x.added(6, 0), east[q]);
            due(32, "north of " + q, x.added(2, 1), north[q]);
            due(32, "another ward", x.added(1, 1), 0);
        }
        GustHome x = new GustHome();
        x.gust(0, 7, 0, 2, 0);
        x.gust(1, 5, 0, 3, 0);
        x.gust(2, 50, 0, 3, 0);
        x.name(0, 1);
        x.name(1, 3);
        due(32, "halves rounded for each, one aside", x.added(6, 0), 5);
        due(32, "north", x.added(6, 1), 1);
        due(32, "ward 3", x.added(3, 0), 2);
        due(32, "what 2", x.added(6, 2), -1);
        due(32, "what -1", x.added(6, -1), -1);
        due(32, "ward 7", x.added(7, 0), -1);
        due(32, "ward -1", x.added(-1, 0), -1);
    }

    private static void keptAndUndone() {
        GustHome x = new GustHome();
        due(35, "none was kept", x.undo(), false);
        x.gust(0, 30, 2, 0, 3);
        x.gust(5, 30, 2, 0, 4);
        x.name(0, 3);
        x.habit(0, 4, true);
        x.nurse(0, 5);
        x.ward(0, 9, 1, 0);
        table(x, 0, "ABC");
        law(x, "f2(1=1);g1(1=1);b1(1=1);i10(1=1);e(1=1);x(1=1)");
        x.months(2);
        due(34, "how many", x.keep(), 2);
        int[] was = new int[12];
        for (int k = 0; k < 9; k++) was[k] = x.count(k);
        x.months(4);
        x.gust(0, 1, 1, 1, 1);
        x.gust(1, 1, 1, 1, 1);
        x.nurse(0, 1);
        x.nurse(1, 1);
        x.seed(77);
        x.ward(0, 3, 4, 1);
        x.needs(1, 1);
        x.wind(0, 0, 0);
        due(35, "undone", x.undo(), true);
        for (int k = 0; k < 9; k++) due(35, "count(" + k + ")", x.count(k), was[k]);
        int[] is = {30, 3, 4, 0, 3, 17};
        for (int k = 0; k < 6; k++) due(35, "gustIs(0, " + k + ")", x.gustIs(0, k), is[k]);
        due(35, "asthma", x.nurseIs(0, 0), 5);
        due(35, "ill", x.nurseIs(0, 1), 5);
        due(35, "not told", x.nurseIs(1, 0), -1);
        due(35, "the place", x.wardIs(0, 5), 2);
        due(35, "wards are not undone", x.wardIs(0, 0), 3);
        due(35, "wards are not undone", x.wardIs(0, 1), 4);
        due(35, "wards are not undone", x.wardIs(0, 2), 1);
        due(35, "needs are not undone", x.count(21), 1);
        due(35, "winds are not undone", x.count(9), 1);
        x.months(1);
        due(35, "undone again", x.undo(), true);
        due(35, "month", x.count(0), 2);
        // a newer timetable
        table(x, 0, "DEF");
        due(35, "told anew: the first", x.wardIs(0, 5), 3);
        x.undo();
        due(35, "the place in the newer one", x.wardIs(0, 5), 5);
        table(x, 0, "GH");
        x.months(1);
        x.undo();
        due(35, "a place beyond it: the first", x.wardIs(0, 5), 6);
        x.letGo(1);
        due(34, "kept anew", x.keep(), 2);
        x.gust(7, 1, 1, 1, 1);
        due(34, "kept anew", x.keep(), 3);
        x.gust(8, 1, 1, 1, 1);
        x.undo();
        due(35, "the last one kept", x.count(3), 1 | 32 | 128);
    }

    private static void checked() {
        GustHome x = new GustHome();
        x.gust(0, 30, 2, 0, 3);
        x.gust(11, 99, 2, 0, 3);
        put(x, 30, 0, 0, 0, 0, 0, 0, 0, 0, 0, 0, 99);
        due(36, "right", x.check(12), -1);
        due(36, "empty then", x.count(7), 0);
        put(x, 30, 0, 0, 0, 0, 0, 0, 0, 0, 0, 0, 98);
        due(36, "the last is wrong", x.check(12), 11);
        put(x, 30, 0, 0, 0, 0, 0, 0, 0, 0, 0, 0, 98);
        due(36, "as far as asked", x.check(11), -1);
        put(x, 31, 1);
        due(36, "the first wrong one", x.check(2), 0);
        put(x, 30, 1);
        due(36, "one that is not told is 0", x.check(2), 1);
        put(x, 30, 1);
        due(36, "none looked at", x.check(0), -1);
        due(36, "empty then", x.count(7), 0);
        due(36, "none, and an empty tape", x.check(0), -1);
        due(36, "it has not so many", x.check(1), -2);
        put(x, 30, 1);
        due(36, "n 13", x.check(13), -2);
        due(36, "n -1", x.check(-1), -2);
        due(36, "the tape stays", x.count(7), 20);
        // one that was let go is 0 again
        x.name(11, 1);
        x.wind(0, 1, 255);
        x.letGo(1 << 11);
        x.check(0);
        put(x, 30, 0, 0, 0, 0, 0, 0, 0, 0, 0, 0, 99);
        due(36, "let go", x.check(12), 11);
    }

    private static void counted() {
        GustHome x = new GustHome();
        int[] bad = {-1, 12, 19, 30, 31, Integer.MIN_VALUE, Integer.MAX_VALUE};
        for (int b : bad) due(37, "count(" + b + ")", x.count(b), -1);
        x.gust(2, 1, 1, 1, 1);
        x.nurse(3, 1);
        x.wind(1, 1, 1);
        x.home(7, 1);
        x.house(2, 1, 1);
        x.needs(6, 3);
        law(x, "b7(1=1);x(1=2)");
        rules(x, "(1=1)");
        x.seed(5);
        x.months(3);
        x.feed(0, 0, 0, 0, 0);
        int[] is = {3, 21, 0, 4, 8, 2, 1, 20, 5, 2, 128, 4};
        for (int k = 0; k < is.length; k++) due(37, "count(" + k + ")", x.count(k), is[k]);
        due(37, "needs", x.count(26), 3);
    }
}
