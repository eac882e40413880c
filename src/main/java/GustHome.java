import java.util.Arrays;

/** The wind's orphanage, as ../shared/DOC.md promises it. */
public final class GustHome {
    public static final int NONE = -1;

    private static final int GUSTS = 12;
    private static final int WARDS = 6;
    private static final int NURSES = 5;
    private static final int LESSONS = 10;
    private static final int HOMES = 10;
    private static final int HOUSES = 5;
    private static final int WINDS = 4;
    private static final int ALL_HABITS = 1023;
    private static final int UNNAMED = 8;
    private static final int LAST_MONTH = 9999;
    private static final int LONGEST_TEXT = 240;
    private static final int LONGEST_TIMETABLE = 60;
    private static final int LAST_SPOT = 250;
    /** The "what" that asks for a number of a whole plan, not for one place in it. */
    private static final int TOTAL = 20;
    /** What is answered where the call is fine but nothing is there. */
    private static final int NOTHING = -2;

    private final Tape tape;
    private final Reader reader;
    private final Ward[] wards;
    private final Judge judge;
    private final Calendar calendar;
    private final Planner planner;
    private final Winds winds;
    private final Houses houses;
    private final School school;
    private final State now = new State();
    private final State kept = new State();
    private final State trial = new State();
    private final int[] homeHabits = new int[HOMES];
    private int homesTold;
    private boolean anyKept;

    public GustHome() {
        Ward[] rooms = new Ward[WARDS];
        for (int w = 0; w < rooms.length; w++) {
            rooms[w] = new Ward();
        }
        Tape bytes = new Tape();
        School lessons = new School();
        Judge asked = new Judge(rooms);
        tape = bytes;
        reader = new Reader(bytes);
        wards = rooms;
        judge = asked;
        school = lessons;
        calendar = new Calendar(rooms, asked, lessons);
        planner = new Planner(rooms, asked);
        winds = new Winds();
        houses = new Houses();
    }

    // ---- telling ----

    public boolean gust(int g, int strength, int temper, int ward, int gale) {
        boolean fits = within(g, GUSTS - 1) && within(strength, 99) && within(temper, 9)
                && within(ward, WARDS - 1) && within(gale, 9);
        if (!fits) {
            return false;
        }
        now.told |= 1 << g;
        now.strength[g] = strength;
        now.temper[g] = temper;
        now.ward[g] = ward;
        now.gale[g] = gale;
        now.quarter[g] = UNNAMED;
        now.habits[g] = 0;
        return true;
    }

    public boolean name(int g, int quarter) {
        if (!now.hasGust(g) || !within(quarter, 7)) {
            return false;
        }
        now.quarter[g] = quarter;
        return true;
    }

    public boolean moves(int g, int ward) {
        Ward to = wardAt(ward);
        if (!now.hasGust(g) || to == null || now.ward[g] == ward) {
            return false;
        }
        if (Integer.bitCount(now.inWard(ward)) >= to.room) {
            return false;
        }
        now.ward[g] = ward;
        return true;
    }

    public boolean habit(int g, int h, boolean has) {
        if (!now.hasGust(g) || !within(h, LESSONS - 1)) {
            return false;
        }
        int bit = 1 << h;
        now.habits[g] = has ? now.habits[g] | bit : now.habits[g] & ~bit;
        return true;
    }

    public boolean ward(int w, int room, int dust, int nurse) {
        Ward told = wardAt(w);
        boolean fits = within(room, 9) && within(dust, 9) && (nurse == NONE || within(nurse, NURSES - 1));
        if (told == null || !fits) {
            return false;
        }
        told.room = room;
        told.dust = dust;
        told.nurse = nurse;
        return true;
    }

    public boolean nurse(int k, int asthma) {
        if (!within(k, NURSES - 1) || !within(asthma, 9)) {
            return false;
        }
        now.nursesTold |= 1 << k;
        now.asthma[k] = asthma;
        now.ill[k] = 0;
        return true;
    }

    public boolean needs(int lesson, int habits) {
        if (!within(lesson, LESSONS - 1) || !within(habits, ALL_HABITS) || (habits >> lesson & 1) != 0) {
            return false;
        }
        school.needed[lesson] = habits;
        return true;
    }

    public boolean wind(int k, int quarter, int limit) {
        if (!within(k, WINDS - 1) || !within(quarter, 7) || !within(limit, 255)) {
            return false;
        }
        winds.told |= 1 << k;
        winds.quarter[k] = quarter;
        winds.limit[k] = limit;
        return true;
    }

    public boolean home(int k, int habits) {
        if (!within(k, HOMES - 1) || !within(habits, ALL_HABITS)) {
            return false;
        }
        homesTold |= 1 << k;
        homeHabits[k] = habits;
        return true;
    }

    public boolean house(int k, int rise, int habits) {
        if (!within(k, HOUSES - 1) || !within(rise, 99) || !within(habits, ALL_HABITS)) {
            return false;
        }
        houses.told |= 1 << k;
        houses.rise[k] = rise;
        houses.wanted[k] = habits;
        return true;
    }

    public boolean seed(int x) {
        if (!within(x, 65535)) {
            return false;
        }
        now.x = x;
        return true;
    }

    // ---- the tape and its texts ----

    public int feed(int a, int b, int c, int d, int e) {
        if (!tape.takes(20)) {
            return NONE;
        }
        tape.append(a);
        tape.append(b);
        tape.append(c);
        tape.append(d);
        tape.append(e);
        return tape.size;
    }

    public int law(int n) {
        if (n < 1 || n > LONGEST_TEXT || n > tape.size) {
            return NONE;
        }
        int answer = reader.readText(n, true);
        tape.empty();
        if (answer > 0) {
            reader.draft = judge.exchangeLaw(reader.draft);
        }
        return answer;
    }

    public int rules(int n) {
        if (n < 1 || n > LONGEST_TEXT || n > tape.size) {
            return NONE;
        }
        int answer = reader.readText(n, false);
        tape.empty();
        if (answer > 0) {
            reader.draft = judge.exchangeRules(reader.draft);
        }
        return answer;
    }

    public int timetable(int w, int n) {
        Ward told = wardAt(w);
        if (told == null || n < 1 || n > LONGEST_TIMETABLE || n > tape.size) {
            return NONE;
        }
        int answer = reader.readTimetable(n);
        tape.empty();
        if (answer > 0) {
            told.learnFrom(reader.lessons, answer);
            now.place[w] = 0;
        }
        return answer;
    }

    // ---- months ----

    public int months(int n) {
        if (n < 1 || n > 60) {
            return NONE;
        }
        calendar.go(now, n);
        return calendar.learnt;
    }

    public int tried(int n, int what) {
        if (n < 1 || n > 60 || !(within(what, 6) || now.hasGust(what - 10))) {
            return NONE;
        }
        trial.copy(now);
        calendar.go(trial, n);
        switch (what) {
            case 0: return calendar.learnt;
            case 1: return trial.toys - now.toys;
            case 2: return trial.whistles - now.whistles;
            case 3: return calendar.fellIll;
            case 4: return calendar.badMonths;
            case 5: return calendar.badRule;
            case 6: return calendar.badWard;
            default: return trial.hasGust(what - 10) ? trial.strength[what - 10] : NONE;
        }
    }

    // ---- what is ----

    public int gustIs(int g, int what) {
        if (!now.hasGust(g)) {
            return NONE;
        }
        switch (what) {
            case 0: return now.strength[g];
            case 1: return now.quarter[g] == UNNAMED ? NOTHING : now.quarter[g];
            case 2: return now.temper[g];
            case 3: return now.ward[g];
            case 4: return now.gale[g];
            case 5: return now.habits[g];
            default: return NONE;
        }
    }

    public int wardIs(int w, int what) {
        Ward asked = wardAt(w);
        if (asked == null) {
            return NONE;
        }
        switch (what) {
            case 0: return asked.room;
            case 1: return asked.dust;
            case 2: return asked.nurse == NONE ? NOTHING : asked.nurse;
            case 3: return now.inWard(w);
            case 4: return asked.length;
            case 5: return asked.lessonAt(now.place[w]);
            case 6: return judge.firstBroken(now, w);
            default: return NONE;
        }
    }

    public int nurseIs(int k, int what) {
        if (!now.hasNurse(k)) {
            return NONE;
        }
        switch (what) {
            case 0: return now.asthma[k];
            case 1: return now.ill[k];
            default: return NONE;
        }
    }

    public int quarrel(int g, int j) {
        if (!now.hasGust(g) || !now.hasGust(j) || g == j) {
            return NONE;
        }
        return judge.atOdds(now, g, j) ? 1 : 0;
    }

    public int count(int what) {
        switch (what) {
            case 0: return now.month;
            case 1: return now.toys;
            case 2: return now.whistles;
            case 3: return now.told;
            case 4: return now.nursesTold;
            case 5: return judge.clauses();
            case 6: return judge.ruleCount();
            case 7: return tape.size;
            case 8: return now.x;
            case 9: return winds.told;
            case 10: return homesTold;
            case 11: return houses.told;
            default: return within(what - 20, LESSONS - 1) ? school.needed[what - 20] : NONE;
        }
    }

    public int added(int ward, int what) {
        if (!within(ward, WARDS) || !within(what, 1)) {
            return NONE;
        }
        int sum = 0;
        for (int g = 0; g < GUSTS; g++) {
            if (now.hasGust(g) && (ward == WARDS || now.ward[g] == ward) && now.quarter[g] != UNNAMED) {
                // North turned by two quarters is east, so one reckoning serves both.
                int turned = what == 0 ? now.quarter[g] + 6 : now.quarter[g];
                sum += northward(turned & 7, now.strength[g]);
            }
        }
        return sum;
    }

    // ---- plans ----

    public int housed(int gusts, int wards, int what) {
        int places = Integer.bitCount(wards);
        if (!chosen(gusts, 1, 6) || !within(wards, 63) || places < 1 || places > 3) {
            return NONE;
        }
        if (what != TOTAL && !isIn(gusts, what)) {
            return NONE;
        }
        boolean found = planner.lodge(now, gusts, wards);
        if (!found) {
            return NOTHING;
        }
        return what == TOTAL ? planner.best : planner.chosenFor(gusts, what);
    }

    public int leaving(int gusts, int what) {
        if (!chosen(gusts, 1, 6) || !(what == TOTAL || what == 21 || isIn(gusts, what))) {
            return NONE;
        }
        winds.sendOff(now, gusts);
        if (what == TOTAL) {
            return winds.mostGo;
        }
        return what == 21 ? winds.mostStrength : winds.windOf(gusts, what);
    }

    public int letGo(int gusts) {
        if (!chosen(gusts, 1, 6)) {
            return NONE;
        }
        winds.sendOff(now, gusts);
        int gone = 0;
        for (int g = 0; g < GUSTS; g++) {
            if (isIn(gusts, g) && winds.windOf(gusts, g) != WINDS) {
                gone |= 1 << g;
            }
        }
        now.told &= ~gone;
        return gone;
    }

    public int from(int g, int asked, int what) {
        if (!now.hasGust(g) || !within(asked, ALL_HABITS) || !within(what, 1)) {
            return NONE;
        }
        int fitting = homesLike(now.habits[g], asked);
        return what == 0 ? fitting : mostTelling(fitting, asked);
    }

    public int taught(int g, int habits, int what) {
        if (!now.hasGust(g) || !within(habits, ALL_HABITS)) {
            return NONE;
        }
        int lessons = school.order(now.habits[g], habits);
        if (lessons < 0 || what == TOTAL) {
            return lessons;
        }
        return what >= 0 && what < lessons ? school.row[what] : -4;
    }

    public int placed(int gusts, int what) {
        if (!chosen(gusts, 1, 6) || !isIn(gusts, what)) {
            return NONE;
        }
        return houses.keeperOf(now, gusts, what);
    }

    public int fair(int gusts) {
        if (!chosen(gusts, 1, 6) || Integer.bitCount(gusts) > tape.size) {
            return NONE;
        }
        boolean stands = houses.readRow(tape, gusts);
        tape.empty();
        return stands ? houses.envious(now, gusts) : NOTHING;
    }

    public int escaped(int n, int speed, int hour, int what) {
        boolean fits = n >= 1 && n <= 8 && within(speed, 99) && within(hour, 255) && within(what, 99);
        if (!fits || 3 * n > tape.size) {
            return NONE;
        }
        int answer = sought(n, speed, hour, what);
        tape.empty();
        return answer;
    }

    public int nursed(int nurses, int wards, int what) {
        int places = Integer.bitCount(wards);
        if (!within(nurses, 31) || !within(wards, 63) || places < 1 || places != Integer.bitCount(nurses)) {
            return NONE;
        }
        if ((nurses & ~now.nursesTold) != 0 || !(what == TOTAL || isIn(wards, what))) {
            return NONE;
        }
        planner.staff(now, nurses, wards);
        return what == TOTAL ? planner.best : planner.chosenFor(wards, what);
    }

    public int round(int gusts, int what) {
        if (!chosen(gusts, 3, 8) || !(what == TOTAL || within(what, Integer.bitCount(gusts) - 1))) {
            return NONE;
        }
        int rows = planner.ring(now, gusts);
        if (what == TOTAL) {
            return rows;
        }
        return rows == 0 ? NOTHING : planner.ringAt(what);
    }

    // ---- kept, undone, checked ----

    public int keep() {
        kept.copy(now);
        anyKept = true;
        return Integer.bitCount(now.told);
    }

    public boolean undo() {
        if (!anyKept) {
            return false;
        }
        now.copy(kept);
        for (int w = 0; w < WARDS; w++) {
            Ward asked = wardAt(w);
            if (asked == null || now.place[w] >= asked.length) {
                now.place[w] = 0;
            }
        }
        return true;
    }

    public int check(int n) {
        if (!within(n, GUSTS) || n > tape.size) {
            return NOTHING;
        }
        int wrong = NONE;
        for (int g = 0; g < n && wrong == NONE; g++) {
            int due = now.hasGust(g) ? now.strength[g] : 0;
            if (tape.at(g) != due) {
                wrong = g;
            }
        }
        tape.empty();
        return wrong;
    }

    // ---- helpers ----

    private static boolean within(int x, int most) {
        return x >= 0 && x <= most;
    }

    private static boolean isIn(int bits, int x) {
        return x >= 0 && x < 31 && (bits >> x & 1) != 0;
    }

    /** How many of the bits stand below one of them. */
    private static int placeIn(int bits, int x) {
        return x >= 0 && x < 31 ? Integer.bitCount(bits & (1 << x) - 1) : 0;
    }

    private boolean chosen(int gusts, int least, int most) {
        int size = Integer.bitCount(gusts);
        return (gusts & ~now.told) == 0 && size >= least && size <= most;
    }

    private Ward wardAt(int w) {
        return w >= 0 && w < wards.length ? wards[w] : null;
    }

    private static int northward(int quarter, int strength) {
        switch (quarter) {
            case 0: return strength;
            case 1:
            case 7: return strength / 2;
            case 4: return -strength;
            case 3:
            case 5: return -(strength / 2);
            default: return 0;
        }
    }

    private int homesLike(int habits, int asked) {
        int fitting = 0;
        for (int k = 0; k < HOMES; k++) {
            if (isIn(homesTold, k) && ((homeHabits[k] ^ habits) & asked) == 0) {
                fitting |= 1 << k;
            }
        }
        return fitting;
    }

    private int mostTelling(int fitting, int asked) {
        int all = Integer.bitCount(fitting);
        // A habit that leaves all homes in one part tells nothing, so it never beats this start.
        int smallest = all;
        int habit = NOTHING;
        for (int h = 0; h < LESSONS; h++) {
            int with = homesWith(fitting, h);
            int greater = Math.max(with, all - with);
            if (!isIn(asked, h) && greater < smallest) {
                smallest = greater;
                habit = h;
            }
        }
        return habit;
    }

    private int homesWith(int fitting, int h) {
        int with = 0;
        for (int k = 0; k < HOMES; k++) {
            if (isIn(fitting, k) && isIn(homeHabits[k], h)) {
                with++;
            }
        }
        return with;
    }

    private int sought(int n, int speed, int hour, int what) {
        if (!sightingsStand(n)) {
            return -3;
        }
        if (!sightingsAgree(n, speed)) {
            return NOTHING;
        }
        int lowest = 0;
        int highest = LAST_SPOT;
        for (int i = 0; i < n; i++) {
            int reach = speed * Math.abs(hour - tape.at(3 * i));
            lowest = Math.max(lowest, tape.at(3 * i + 1) - reach);
            highest = Math.min(highest, tape.at(3 * i + 2) + reach);
        }
        if (what < 2) {
            return what == 0 ? lowest : highest;
        }
        return (highest - lowest + what) / what;
    }

    private boolean sightingsStand(int n) {
        int before = -1;
        for (int i = 0; i < n; i++) {
            int hour = tape.at(3 * i);
            int low = tape.at(3 * i + 1);
            int high = tape.at(3 * i + 2);
            if (hour <= before || low > high || high > LAST_SPOT) {
                return false;
            }
            before = hour;
        }
        return true;
    }

    /** On a line it is enough that each two sightings can be reached from one another. */
    private boolean sightingsAgree(int n, int speed) {
        for (int i = 0; i < n; i++) {
            for (int j = 0; j < n; j++) {
                int reach = speed * Math.abs(tape.at(3 * i) - tape.at(3 * j));
                if (tape.at(3 * i + 1) - tape.at(3 * j + 2) > reach) {
                    return false;
                }
            }
        }
        return true;
    }

    // ---- the classes inside ----

    /** Bytes that were fed and not yet used. */
    private static final class Tape {
        private final int[] bytes = new int[260];
        private int size;

        boolean takes(int more) {
            return size + more <= bytes.length;
        }

        void append(int word) {
            for (int shift = 24; shift >= 0 && size < bytes.length; shift -= 8) {
                bytes[size] = word >> shift & 255;
                size++;
            }
        }

        int at(int i) {
            return i >= 0 && i < size ? bytes[i] : -1;
        }

        void empty() {
            size = 0;
        }
    }

    /** All that is kept and undone, and that a trial must not change. */
    private static final class State {
        private int told;
        private final int[] strength = new int[GUSTS];
        private final int[] quarter = new int[GUSTS];
        private final int[] temper = new int[GUSTS];
        private final int[] ward = new int[GUSTS];
        private final int[] gale = new int[GUSTS];
        private final int[] habits = new int[GUSTS];
        private int nursesTold;
        private final int[] asthma = new int[NURSES];
        private final int[] ill = new int[NURSES];
        private final int[] place = new int[WARDS];
        private int month;
        private int toys;
        private int whistles;
        private int x = 1;

        boolean hasGust(int g) {
            return g >= 0 && g < GUSTS && (told >> g & 1) != 0;
        }

        boolean hasNurse(int k) {
            return k >= 0 && k < NURSES && (nursesTold >> k & 1) != 0;
        }

        boolean works(int k) {
            return hasNurse(k) && ill[k] == 0;
        }

        int inWard(int w) {
            int there = 0;
            for (int g = 0; g < GUSTS; g++) {
                if (hasGust(g) && ward[g] == w) {
                    there |= 1 << g;
                }
            }
            return there;
        }

        int draw() {
            x = 25173 * x + 13849 & 65535;
            return x % 10;
        }

        void copy(State other) {
            told = other.told;
            System.arraycopy(other.strength, 0, strength, 0, GUSTS);
            System.arraycopy(other.quarter, 0, quarter, 0, GUSTS);
            System.arraycopy(other.temper, 0, temper, 0, GUSTS);
            System.arraycopy(other.ward, 0, ward, 0, GUSTS);
            System.arraycopy(other.gale, 0, gale, 0, GUSTS);
            System.arraycopy(other.habits, 0, habits, 0, GUSTS);
            nursesTold = other.nursesTold;
            System.arraycopy(other.asthma, 0, asthma, 0, NURSES);
            System.arraycopy(other.ill, 0, ill, 0, NURSES);
            System.arraycopy(other.place, 0, place, 0, WARDS);
            month = other.month;
            toys = other.toys;
            whistles = other.whistles;
            x = other.x;
        }
    }

    /** What of a ward is not undone. */
    private static final class Ward {
        private static final int MOST_MONTHS = 48;

        private final int[] lessons = new int[MOST_MONTHS];
        private int length;
        private int room = 9;
        private int dust;
        private int nurse = NONE;

        void learnFrom(int[] row, int size) {
            length = Math.max(0, Math.min(Math.min(size, row.length), lessons.length));
            System.arraycopy(row, 0, lessons, 0, length);
        }

        int lessonAt(int place) {
            return place >= 0 && place < length ? lessons[place] : NOTHING;
        }

        int placeAfter(int place) {
            return place + 1 < length ? place + 1 : 0;
        }
    }

    /** The law, or the rules, as steps of a small stack machine: read once, asked often. */
    private static final class Code {
        private static final int HALT = 0;
        private static final int PUSH = 1;
        private static final int LOAD = 2;
        private static final int NOT = 3;
        private static final int SKIP_IF_FALSE = 4;
        private static final int SKIP_IF_TRUE = 5;
        private static final int MOST_CLAUSES = 16;

        private final int[] step = new int[256];
        private final int[] with = new int[256];
        private final int[] stack = new int[32];
        private final int[] letter = new int[MOST_CLAUSES];
        private final int[] amountAt = new int[MOST_CLAUSES];
        private final int[] conditionAt = new int[MOST_CLAUSES];
        private int size;
        private int clauses;

        void clear() {
            size = 0;
            clauses = 0;
        }

        void openClause(int its) {
            if (clauses < MOST_CLAUSES) {
                letter[clauses] = its;
                amountAt[clauses] = size;
            }
        }

        void openCondition() {
            if (clauses < MOST_CLAUSES) {
                conditionAt[clauses] = size;
            }
        }

        void closeClause() {
            if (clauses < MOST_CLAUSES) {
                clauses++;
            }
        }

        int put(int what, int number) {
            if (size >= step.length) {
                return -1;
            }
            step[size] = what;
            with[size] = number;
            size++;
            return size - 1;
        }

        /** The skip that was put at that place leads to what is put next. */
        void land(int skip) {
            if (skip >= 0 && skip < size) {
                with[skip] = size;
            }
        }

        /** Where it is refused 0 is answered: for an E that is due, and a C does not hold by it. */
        int run(int start, int[] values) {
            int top = 0;
            int at = start;
            for (int k = 0; k < step.length && at >= 0 && at < size; k++) {
                int what = step[at];
                int number = with[at];
                at++;
                if (what == PUSH || what == LOAD) {
                    if (top >= stack.length) {
                        return 0;
                    }
                    stack[top] = what == PUSH ? number : valueAt(values, number);
                    top++;
                } else if (top < 1 || what == HALT) {
                    return top < 1 ? 0 : stack[top - 1];
                } else if (what == NOT) {
                    stack[top - 1] = 1 - stack[top - 1];
                } else if (what == SKIP_IF_FALSE || what == SKIP_IF_TRUE) {
                    boolean skips = (stack[top - 1] != 0) == (what == SKIP_IF_TRUE);
                    at = skips ? number : at;
                    top = skips ? top : top - 1;
                } else {
                    boolean refused = top < 2 || (what == '/' || what == '%') && stack[top - 1] == 0;
                    if (refused) {
                        return 0;
                    }
                    top--;
                    stack[top - 1] = join(what, stack[top - 1], stack[top]);
                }
            }
            return 0;
        }

        private static int valueAt(int[] values, int i) {
            return i >= 0 && i < values.length ? values[i] : 0;
        }

        /** The steps of two numbers are named by their signs in the text. */
        private static int join(int sign, int left, int right) {
            switch (sign) {
                case '+': return left + right;
                case '-': return left - right;
                case '*': return left * right;
                case '/': return right == 0 ? 0 : left / right;
                case '%': return right == 0 ? 0 : left % right;
                case '<': return left < right ? 1 : 0;
                case '>': return left > right ? 1 : 0;
                default: return left == right ? 1 : 0;
            }
        }
    }

    /** Reads the three kinds of text from the tape; a text with a fault leaves its draft to be overwritten. */
    private static final class Reader {
        private static final String LETTERS = "sqthdwoplanvuzm";
        private static final int MOST_RULES = 12;
        private static final int DEEPEST = 6;
        private static final int DEEPEST_MONTHS = 2;

        private final Tape tape;
        private Code draft = new Code();
        /** One more than may be, so that the one too many can be written before it is asked. */
        private final int[] lessons = new int[Ward.MOST_MONTHS + 1];
        private int months;
        private int at;
        private int end;
        private int fault;

        Reader(Tape tape) {
            this.tape = tape;
        }

        /** The law, or else rules, into the draft: how many, or a fault. */
        int readText(int n, boolean isLaw) {
            begin(n);
            for (int k = 0; k < LONGEST_TEXT; k++) {
                if (isLaw) {
                    readClause();
                } else {
                    readRule();
                }
                if (at >= end) {
                    break;
                }
                expect(';');
            }
            return fault != 0 ? fault : draft.clauses;
        }

        int readTimetable(int n) {
            begin(n);
            readMonths(0);
            if (at < end) {
                fail(1, at);
            }
            return fault != 0 ? fault : months;
        }

        private void begin(int n) {
            draft.clear();
            months = 0;
            at = 0;
            end = n;
            fault = 0;
        }

        private int here() {
            return at < end ? tape.at(at) : -1;
        }

        /** The text ends at its first fault, so that nothing behind it is read any more. */
        private void fail(int number, int place) {
            if (fault == 0) {
                fault = -1000 * number - place;
                end = at;
            }
        }

        private void expect(int sign) {
            if (here() == sign) {
                at++;
            } else {
                fail(1, at);
            }
        }

        private boolean opens(int depth) {
            if (depth >= DEEPEST) {
                fail(5, at);
                return false;
            }
            at++;
            return true;
        }

        private void readClause() {
            int letter = here();
            boolean alone = letter == 'e' || letter == 'x';
            boolean amount = letter == 'f' || letter == 'g' || letter == 'b' || letter == 'i';
            if (!alone && !amount) {
                fail(1, at);
                return;
            }
            if (draft.clauses >= Code.MOST_CLAUSES) {
                fail(4, at);
                return;
            }
            at++;
            draft.openClause(letter);
            if (amount) {
                readSum(0);
                draft.put(Code.HALT, 0);
            }
            readWhole();
        }

        private void readRule() {
            if (here() == '(' && draft.clauses >= MOST_RULES) {
                fail(4, at);
                return;
            }
            draft.openClause('r');
            readWhole();
        }

        /** The (C) of a clause, or a rule. */
        private void readWhole() {
            draft.openCondition();
            readBracket(0);
            draft.put(Code.HALT, 0);
            draft.closeClause();
        }

        private void readBracket(int depth) {
            if (here() != '(') {
                fail(1, at);
            } else if (opens(depth)) {
                readCondition(depth + 1);
                expect(')');
            }
        }

        private void readCondition(int depth) {
            readPart(depth);
            for (int k = 0; k < LONGEST_TEXT && here() == '|'; k++) {
                at++;
                int skip = draft.put(Code.SKIP_IF_TRUE, 0);
                readPart(depth);
                draft.land(skip);
            }
        }

        private void readPart(int depth) {
            readTest(depth);
            for (int k = 0; k < LONGEST_TEXT && here() == '&'; k++) {
                at++;
                int skip = draft.put(Code.SKIP_IF_FALSE, 0);
                readTest(depth);
                draft.land(skip);
            }
        }

        private void readTest(int depth) {
            int first = here();
            if (first == '(') {
                readBracket(depth);
                return;
            }
            if (first == '!') {
                if (opens(depth)) {
                    readTest(depth + 1);
                    draft.put(Code.NOT, 0);
                }
                return;
            }
            readSum(depth);
            int sign = here();
            if (sign != '<' && sign != '>' && sign != '=') {
                fail(1, at);
                return;
            }
            at++;
            readSum(depth);
            draft.put(sign, 0);
        }

        private void readSum(int depth) {
            readTerm(depth);
            for (int k = 0; k < LONGEST_TEXT && (here() == '+' || here() == '-'); k++) {
                int sign = here();
                at++;
                readTerm(depth);
                draft.put(sign, 0);
            }
        }

        private void readTerm(int depth) {
            readFactor(depth);
            for (int k = 0; k < LONGEST_TEXT && (here() == '*' || here() == '/' || here() == '%'); k++) {
                int sign = here();
                at++;
                readFactor(depth);
                draft.put(sign, 0);
            }
        }

        private void readFactor(int depth) {
            int sign = here();
            int letter = sign < 0 ? -1 : LETTERS.indexOf((char) sign);
            if (sign == '[') {
                if (opens(depth)) {
                    readSum(depth + 1);
                    expect(']');
                }
            } else if (sign >= '0' && sign <= '9') {
                readNumber();
            } else if (letter >= 0) {
                draft.put(Code.LOAD, letter);
                at++;
            } else {
                fail(1, at);
            }
        }

        private void readNumber() {
            int number = 0;
            for (int digits = 0; digits <= 5 && here() >= '0' && here() <= '9'; digits++) {
                if (digits == 5) {
                    fail(2, at);
                    return;
                }
                number = 10 * number + here() - '0';
                at++;
            }
            draft.put(Code.PUSH, number);
        }

        private void readMonths(int depth) {
            for (int k = 0; k < LONGEST_TIMETABLE; k++) {
                readMonth(depth);
                if (at >= end || here() == ')') {
                    return;
                }
            }
        }

        private void readMonth(int depth) {
            int first = at;
            int before = months;
            int times = 1;
            if (here() >= '2' && here() <= '9') {
                times = here() - '0';
                at++;
            }
            int sign = here();
            if (sign == '(') {
                readGroup(depth);
            } else if (sign == '.') {
                writeMonth(NOTHING);
            } else if (sign >= 'A' && sign <= 'J') {
                writeMonth(sign - 'A');
            } else {
                fail(1, at);
            }
            if (fault == 0) {
                repeat(before, times, first);
            }
        }

        private void readGroup(int depth) {
            if (depth >= DEEPEST_MONTHS) {
                fail(5, at);
                return;
            }
            at++;
            readMonths(depth + 1);
            expect(')');
        }

        private void writeMonth(int lesson) {
            at++;
            if (months < lessons.length) {
                lessons[months] = lesson;
                months++;
            }
        }

        /** The months from "before" on stand there once and are to stand there so many times. */
        private void repeat(int before, int times, int first) {
            int once = months - before;
            int all = before + once * times;
            if (all > Ward.MOST_MONTHS) {
                fail(6, first);
                return;
            }
            for (int k = months; k < all && k >= once && k < lessons.length; k++) {
                lessons[k] = lessons[k - once];
            }
            months = all;
        }
    }

    /** Asks the law and the rules; its row has a place for each letter, in the order of Reader.LETTERS. */
    private static final class Judge {
        private static final int S = 0;
        private static final int Q = 1;
        private static final int T = 2;
        private static final int H = 3;
        private static final int D = 4;
        private static final int W = 5;
        private static final int O = 6;
        private static final int P = 7;
        private static final int L = 8;
        private static final int A = 9;
        private static final int N = 10;
        private static final int V = 11;
        private static final int U = 12;
        private static final int Z = 13;
        private static final int M = 14;

        private final Ward[] wards;
        private final int[] values = new int[15];
        private Code laid = new Code();
        private Code rulebook = new Code();

        Judge(Ward[] wards) {
            this.wards = wards;
        }

        Code exchangeLaw(Code fresh) {
            Code old = laid;
            laid = fresh;
            return old;
        }

        Code exchangeRules(Code fresh) {
            Code old = rulebook;
            rulebook = fresh;
            return old;
        }

        int clauses() {
            return laid.clauses;
        }

        int ruleCount() {
            return rulebook.clauses;
        }

        /** What f, g or b gives for a gust. */
        int ofGust(State s, int g, int letter) {
            lookAtGust(s, g);
            return firstAmount(letter, 20);
        }

        boolean learns(State s, int g, int lesson) {
            lookAtGust(s, g);
            values[L] = lesson;
            return anyHolds('e');
        }

        boolean atOdds(State s, int g, int j) {
            lookAtTwo(s, g, j);
            if (anyHolds('x')) {
                return true;
            }
            lookAtTwo(s, j, g);
            return anyHolds('x');
        }

        int illness(State s, int w, int nurse) {
            lookAtWard(s, w);
            values[V] = 0;
            values[U] = 0;
            values[Z] = 0;
            values[A] = s.hasNurse(nurse) ? s.asthma[nurse] : 0;
            return firstAmount('i', 10);
        }

        /** The first rule that does not hold in a ward. */
        int firstBroken(State s, int w) {
            lookAtWard(s, w);
            for (int r = 0; r < rulebook.clauses && r < Code.MOST_CLAUSES; r++) {
                if (rulebook.run(rulebook.conditionAt[r], values) == 0) {
                    return r;
                }
            }
            return NOTHING;
        }

        private void lookAtGust(State s, int g) {
            Arrays.fill(values, 0);
            values[M] = s.month % 12;
            if (!s.hasGust(g)) {
                return;
            }
            int w = s.ward[g];
            values[S] = s.strength[g];
            values[Q] = s.quarter[g];
            values[T] = s.temper[g];
            values[H] = Integer.bitCount(s.habits[g]);
            values[D] = w >= 0 && w < wards.length ? wards[w].dust : 0;
            values[W] = w;
        }

        private void lookAtTwo(State s, int g, int other) {
            lookAtGust(s, g);
            if (s.hasGust(other)) {
                values[O] = s.strength[other];
                values[P] = s.quarter[other];
            }
        }

        private void lookAtWard(State s, int w) {
            Arrays.fill(values, 0);
            int there = s.inWard(w);
            int nurse = w >= 0 && w < wards.length ? wards[w].nurse : NONE;
            values[W] = w;
            values[A] = s.hasNurse(nurse) ? s.asthma[nurse] : 0;
            values[N] = Integer.bitCount(there);
            for (int g = 0; g < GUSTS; g++) {
                values[V] += isIn(there, g) ? s.strength[g] : 0;
            }
            values[U] = s.toys;
            values[Z] = s.whistles;
            values[M] = s.month % 12;
        }

        private int firstAmount(int letter, int most) {
            for (int k = 0; k < laid.clauses && k < Code.MOST_CLAUSES; k++) {
                if (laid.letter[k] == letter && laid.run(laid.conditionAt[k], values) != 0) {
                    return Math.max(0, Math.min(most, laid.run(laid.amountAt[k], values)));
                }
            }
            return 0;
        }

        private boolean anyHolds(int letter) {
            for (int k = 0; k < laid.clauses && k < Code.MOST_CLAUSES; k++) {
                if (laid.letter[k] == letter && laid.run(laid.conditionAt[k], values) != 0) {
                    return true;
                }
            }
            return false;
        }
    }

    /** Lets months go by in a state and tells what came of them. */
    private static final class Calendar {
        private final Ward[] wards;
        private final Judge judge;
        private final School school;
        private int learnt;
        private int fellIll;
        private int badMonths;
        private int badRule;
        private int badWard;

        Calendar(Ward[] wards, Judge judge, School school) {
            this.wards = wards;
            this.judge = judge;
            this.school = school;
        }

        void go(State s, int n) {
            learnt = 0;
            fellIll = 0;
            badMonths = 0;
            badRule = NOTHING;
            badWard = NOTHING;
            for (int k = 0; k < n && s.month < LAST_MONTH; k++) {
                pass(s);
            }
        }

        private void pass(State s) {
            weaken(s);
            for (int w = 0; w < wards.length; w++) {
                int lesson = wards[w].lessonAt(s.place[w]);
                s.place[w] = wards[w].placeAfter(s.place[w]);
                if (s.works(wards[w].nurse)) {
                    strengthen(s, w, wards[w].dust);
                    teach(s, w, lesson);
                }
            }
            breakToys(s);
            quarrelAll(s);
            recover(s);
            for (int w = 0; w < wards.length; w++) {
                sicken(s, w, wards[w].nurse);
            }
            askRules(s);
            s.month++;
        }

        private void weaken(State s) {
            int part = s.month % 12;
            if (part != 11 && part != 0 && part != 1) {
                return;
            }
            for (int g = 0; g < GUSTS; g++) {
                if (s.hasGust(g)) {
                    s.strength[g] = Math.max(0, s.strength[g] - judge.ofGust(s, g, 'g'));
                }
            }
        }

        private void strengthen(State s, int w, int dust) {
            for (int g = 0; g < GUSTS && dust > 0; g++) {
                if (s.hasGust(g) && s.ward[g] == w) {
                    s.strength[g] = Math.min(99, s.strength[g] + judge.ofGust(s, g, 'f'));
                }
            }
        }

        private void teach(State s, int w, int lesson) {
            if (lesson < 0 || lesson >= LESSONS) {
                return;
            }
            for (int g = 0; g < GUSTS; g++) {
                boolean lacks = s.hasGust(g) && s.ward[g] == w && !isIn(s.habits[g], lesson);
                boolean ready = lacks && (school.needed[lesson] & ~s.habits[g]) == 0;
                if (ready && judge.learns(s, g, lesson)) {
                    s.habits[g] |= 1 << lesson;
                    learnt++;
                }
            }
        }

        private void breakToys(State s) {
            for (int g = 0; g < GUSTS; g++) {
                if (s.hasGust(g)) {
                    s.toys += judge.ofGust(s, g, 'b');
                }
            }
        }

        private void quarrelAll(State s) {
            for (int g = 0; g < GUSTS; g++) {
                for (int j = g + 1; j < GUSTS; j++) {
                    boolean meet = s.hasGust(g) && s.hasGust(j) && s.ward[g] == s.ward[j];
                    if (meet && judge.atOdds(s, g, j)) {
                        s.whistles++;
                        s.temper[g] = Math.min(9, s.temper[g] + 1);
                        s.temper[j] = Math.min(9, s.temper[j] + 1);
                    }
                }
            }
        }

        private void recover(State s) {
            for (int k = 0; k < NURSES; k++) {
                s.ill[k] = Math.max(0, s.ill[k] - 1);
            }
        }

        private void sicken(State s, int w, int nurse) {
            if (!s.works(nurse) || s.inWard(w) == 0) {
                return;
            }
            if (s.draw() < judge.illness(s, w, nurse)) {
                s.ill[nurse] = s.asthma[nurse] + 1;
                fellIll++;
            }
        }

        private void askRules(State s) {
            int rule = NOTHING;
            int where = NOTHING;
            for (int w = 0; w < wards.length; w++) {
                int broken = judge.firstBroken(s, w);
                if (broken != NOTHING && (rule == NOTHING || broken < rule)) {
                    rule = broken;
                    where = w;
                }
            }
            if (rule != NOTHING && badMonths == 0) {
                badRule = rule;
                badWard = where;
            }
            badMonths += rule == NOTHING ? 0 : 1;
        }
    }

    /** Plans that hang on quarrels or on illness: wards for gusts, nurses for wards, the ring. */
    private static final class Planner {
        private static final int MOST = 8;
        private static final int UNREACHED = 1000;

        private final Ward[] wards;
        private final Judge judge;
        /** Who is asked, and whom or what each of them may get, by rising numbers. */
        private final int[] seekers = new int[MOST];
        private final int[] choices = new int[MOST];
        private int size;
        private int choiceCount;
        /** By places: with which others (as bits) one quarrels. */
        private final int[] odds = new int[MOST];
        private final int[] space = new int[MOST];
        private final int[] members = new int[MOST];
        private final int[] cost = new int[MOST * MOST];
        private final int[] row = new int[MOST];
        private final int[] bestRow = new int[MOST];
        private int best;
        /** By who has come (as bits of places), times MOST, and the last of them: in how many ways the ring ends. */
        private final int[] ways = new int[MOST << MOST];

        Planner(Ward[] wards, Judge judge) {
            this.wards = wards;
            this.judge = judge;
        }

        boolean lodge(State s, int gusts, int places) {
            size = spread(gusts, seekers);
            choiceCount = spread(places, choices);
            learnOdds(s);
            for (int k = 0; k < choiceCount && k < MOST; k++) {
                space[k] = choices[k] < wards.length ? wards[choices[k]].room : 0;
                members[k] = 0;
            }
            best = UNREACHED;
            lodgeFrom(0, 0);
            return best < UNREACHED;
        }

        void staff(State s, int nurses, int places) {
            size = spread(places, seekers);
            choiceCount = spread(nurses, choices);
            for (int i = 0; i < size && i < MOST; i++) {
                for (int k = 0; k < choiceCount && k < MOST; k++) {
                    cost[i * MOST + k] = judge.illness(s, seekers[i], choices[k]);
                }
            }
            best = UNREACHED;
            staffFrom(0, 0, 0);
        }

        /** What the best row gives to one of those that were asked. */
        int chosenFor(int asked, int who) {
            if (!isIn(asked, who)) {
                return NONE;
            }
            int i = placeIn(asked, who);
            if (i >= MOST || bestRow[i] < 0 || bestRow[i] >= MOST) {
                return NONE;
            }
            return choices[bestRow[i]];
        }

        /** How many rows there are; the first one is asked with ringAt. */
        int ring(State s, int gusts) {
            size = spread(gusts, seekers);
            learnOdds(s);
            int full = (1 << size) - 1;
            // The lowest stands first, so only sets that hold it are looked at; wider sets come first.
            for (int come = full; come > 0; come -= 2) {
                for (int last = 0; last < size; last++) {
                    if (isIn(come, last)) {
                        ways[come * MOST + last] = waysOn(come, last, full);
                    }
                }
            }
            int rows = ways[MOST];
            if (rows > 0) {
                walkFirst();
            }
            return rows;
        }

        int ringAt(int place) {
            if (place < 0 || place >= MOST || bestRow[place] < 0 || bestRow[place] >= MOST) {
                return NONE;
            }
            return seekers[bestRow[place]];
        }

        private static int spread(int bits, int[] row) {
            int n = 0;
            for (int k = 0; k < GUSTS && n < row.length; k++) {
                if (isIn(bits, k)) {
                    row[n] = k;
                    n++;
                }
            }
            return n;
        }

        private void learnOdds(State s) {
            Arrays.fill(odds, 0);
            for (int i = 0; i < size && i < MOST; i++) {
                for (int j = i + 1; j < size && j < MOST; j++) {
                    if (judge.atOdds(s, seekers[i], seekers[j])) {
                        odds[i] |= 1 << j;
                        odds[j] |= 1 << i;
                    }
                }
            }
        }

        /** Rows come by rising order and only a better one replaces the best, so the least stays. */
        private void lodgeFrom(int i, int twos) {
            if (twos >= best) {
                return;
            }
            if (i >= size || i >= MOST) {
                keepRow(twos);
                return;
            }
            for (int k = 0; k < choiceCount && k < MOST; k++) {
                if (Integer.bitCount(members[k]) < space[k]) {
                    int more = Integer.bitCount(members[k] & odds[i]);
                    row[i] = k;
                    members[k] |= 1 << i;
                    lodgeFrom(i + 1, twos + more);
                    members[k] &= ~(1 << i);
                }
            }
        }

        private void staffFrom(int i, int used, int tenths) {
            if (tenths >= best) {
                return;
            }
            if (i >= size || i >= MOST) {
                keepRow(tenths);
                return;
            }
            for (int k = 0; k < choiceCount && k < MOST; k++) {
                if (!isIn(used, k)) {
                    row[i] = k;
                    staffFrom(i + 1, used | 1 << k, tenths + cost[i * MOST + k]);
                }
            }
        }

        private void keepRow(int total) {
            best = total;
            System.arraycopy(row, 0, bestRow, 0, MOST);
        }

        private int waysOn(int come, int last, int full) {
            if (come == full) {
                return isIn(odds[last], 0) ? 0 : 1;
            }
            int sum = 0;
            for (int next = 1; next < size && next < MOST; next++) {
                if (!isIn(come | odds[last], next)) {
                    sum += ways[(come | 1 << next) * MOST + next];
                }
            }
            return sum;
        }

        private void walkFirst() {
            int come = 1;
            int last = 0;
            bestRow[0] = 0;
            for (int place = 1; place < size && place < MOST; place++) {
                int next = firstOn(come, last);
                bestRow[place] = next;
                come |= 1 << next;
                last = next;
            }
        }

        private int firstOn(int come, int last) {
            for (int next = 1; next < size && next < MOST; next++) {
                if (!isIn(come | odds[last], next) && ways[(come | 1 << next) * MOST + next] > 0) {
                    return next;
                }
            }
            return 0;
        }
    }

    /** The winds, and who is let go with which. */
    private static final class Winds {
        private static final int MOST = 6;

        private int told;
        private final int[] quarter = new int[WINDS];
        private final int[] limit = new int[WINDS];
        private final int[] load = new int[WINDS];
        private final int[] who = new int[MOST];
        private int size;
        /** How strong those from a place on are together. */
        private final int[] strengthFrom = new int[MOST + 1];
        private final int[] row = new int[MOST];
        private final int[] bestRow = new int[MOST];
        private int mostGo;
        private int mostStrength;

        void sendOff(State s, int gusts) {
            size = Planner.spread(gusts, who);
            strengthFrom[size] = 0;
            for (int i = size - 1; i >= 0; i--) {
                strengthFrom[i] = strengthFrom[i + 1] + s.strength[who[i]];
            }
            Arrays.fill(load, 0);
            mostGo = -1;
            mostStrength = -1;
            sendFrom(s, 0, 0, 0);
        }

        int windOf(int gusts, int g) {
            if (!isIn(gusts, g)) {
                return NONE;
            }
            int i = placeIn(gusts, g);
            return i < MOST ? bestRow[i] : NONE;
        }

        /** Rows come by rising order and only a better one replaces the best, so the least stays. */
        private void sendFrom(State s, int i, int go, int strength) {
            if (i > MOST || !mayBeat(go + size - i, strength + strengthFrom[i])) {
                return;
            }
            if (i >= size || i >= MOST) {
                mostGo = go;
                mostStrength = strength;
                System.arraycopy(row, 0, bestRow, 0, MOST);
                return;
            }
            int own = s.strength[who[i]];
            int bound = windOfGale(s, i);
            for (int k = 0; k < WINDS; k++) {
                if ((bound == NONE || bound == k) && carries(s, k, who[i])) {
                    row[i] = k;
                    load[k] += own;
                    sendFrom(s, i + 1, go + 1, strength + own);
                    load[k] -= own;
                }
            }
            if (bound == NONE || bound == WINDS) {
                row[i] = WINDS;
                sendFrom(s, i + 1, go, strength);
            }
        }

        private boolean mayBeat(int go, int strength) {
            return go > mostGo || go == mostGo && strength > mostStrength;
        }

        /** Where the others of its gale have been put already; NONE: there are none ahead of it. */
        private int windOfGale(State s, int i) {
            for (int j = 0; j < i && i < MOST; j++) {
                if (s.gale[who[j]] == s.gale[who[i]]) {
                    return row[j];
                }
            }
            return NONE;
        }

        private boolean carries(State s, int k, int g) {
            if (!isIn(told, k) || s.quarter[g] == UNNAMED) {
                return false;
            }
            int apart = s.quarter[g] - quarter[k] & 7;
            return (apart <= 1 || apart == 7) && load[k] + s.strength[g] <= limit[k];
        }
    }

    /** What lessons need, and in which order they are taught. */
    private static final class School {
        private final int[] needed = new int[LESSONS];
        private final int[] row = new int[LESSONS];

        /** How many lessons, which then stand in the row; NOTHING if they need each other. */
        int order(int has, int wanted) {
            int open = withNeeds(has, wanted);
            int known = has;
            int lessons = Integer.bitCount(open);
            for (int k = 0; k < lessons && k < LESSONS; k++) {
                int next = lowestReady(open, known);
                if (next < 0) {
                    return NOTHING;
                }
                row[k] = next;
                open &= ~(1 << next);
                known |= 1 << next;
            }
            return lessons;
        }

        private int withNeeds(int has, int wanted) {
            int open = wanted & ~has;
            // Each turn but the last finds a lesson more, so as many turns as lessons are enough.
            for (int turn = 0; turn < LESSONS; turn++) {
                for (int k = 0; k < LESSONS; k++) {
                    if (isIn(open, k)) {
                        open |= needed[k] & ~has;
                    }
                }
            }
            return open;
        }

        private int lowestReady(int open, int known) {
            for (int k = 0; k < LESSONS; k++) {
                if (isIn(open, k) && (needed[k] & ~known) == 0) {
                    return k;
                }
            }
            return NONE;
        }
    }

    /** The houses, and which gust is in which. */
    private static final class Houses {
        private int told;
        private final int[] rise = new int[HOUSES];
        private final int[] wanted = new int[HOUSES];
        private final int[] houseOf = new int[GUSTS];
        private final int[] gustIn = new int[HOUSES];

        /**
         * All gusts like the houses alike, so whom the highest house likes best stays there, and the
         * next house has the choice of the others.
         */
        int keeperOf(State s, int gusts, int asked) {
            int open = told;
            int left = gusts;
            for (int k = 0; k < HOUSES && open != 0 && left != 0; k++) {
                int house = highest(open);
                int g = dearest(s, house, left);
                if (house < 0 || g < 0) {
                    return NOTHING;
                }
                if (g == asked) {
                    return house;
                }
                open &= ~(1 << house);
                left &= ~(1 << g);
            }
            return NOTHING;
        }

        /** The row from the tape; false: a house that is not told, or one twice. */
        boolean readRow(Tape tape, int gusts) {
            Arrays.fill(houseOf, NONE);
            Arrays.fill(gustIn, NONE);
            int place = 0;
            for (int g = 0; g < GUSTS; g++) {
                if (!isIn(gusts, g)) {
                    continue;
                }
                int house = tape.at(place);
                place++;
                if (house == 255) {
                    continue;
                }
                if (house < 0 || house >= HOUSES || !isIn(told, house) || gustIn[house] != NONE) {
                    return false;
                }
                houseOf[g] = house;
                gustIn[house] = g;
            }
            return true;
        }

        /** How many twos would rather have each other than what the row gives them. */
        int envious(State s, int gusts) {
            int twos = 0;
            for (int g = 0; g < GUSTS; g++) {
                for (int k = 0; k < HOUSES; k++) {
                    boolean asked = isIn(gusts, g) && isIn(told, k) && houseOf[g] != k;
                    if (asked && higher(k, houseOf[g]) && dearer(s, k, g, gustIn[k])) {
                        twos++;
                    }
                }
            }
            return twos;
        }

        private int highest(int open) {
            int found = NONE;
            for (int k = 0; k < HOUSES; k++) {
                if (isIn(open, k) && higher(k, found)) {
                    found = k;
                }
            }
            return found;
        }

        private int dearest(State s, int house, int left) {
            int found = NONE;
            for (int g = 0; g < GUSTS; g++) {
                if (isIn(left, g) && dearer(s, house, g, found)) {
                    found = g;
                }
            }
            return found;
        }

        /** Whether a gust likes the one house better than the other one (NONE: no house). */
        private boolean higher(int one, int other) {
            if (one < 0 || other < 0 || one >= HOUSES || other >= HOUSES) {
                return other < 0;
            }
            return rise[one] > rise[other] || rise[one] == rise[other] && one < other;
        }

        /** Whether a house likes the one gust better than the other one (NONE: no gust). */
        private boolean dearer(State s, int house, int one, int other) {
            if (house < 0 || house >= HOUSES || !s.hasGust(one) || !s.hasGust(other)) {
                return other < 0;
            }
            int more = Integer.bitCount(s.habits[one] & wanted[house])
                    - Integer.bitCount(s.habits[other] & wanted[house]);
            if (more != 0) {
                return more > 0;
            }
            int stronger = s.strength[one] - s.strength[other];
            return stronger > 0 || stronger == 0 && one < other;
        }
    }
}
