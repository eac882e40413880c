import java.util.ArrayList;
import java.util.Arrays;
import java.util.List;
import java.util.Random;

/** Drawn calls on GustHome, against a second and plain telling of the document. */
public final class ModelRuns {
    private static int wrong = 0;

    public static void main(String[] args) {
        int runs = args.length > 0 ? Integer.parseInt(args[0]) : 1500;
        long first = args.length > 1 ? Long.parseLong(args[1]) : 1;
        long calls = 0;
        for (int k = 0; k < runs && wrong < 20; k++) {
            calls += new Run(first + k).go();
        }
        System.out.println(calls + " calls in " + runs + " runs: " + (wrong == 0 ? "all as the model" : wrong + " not as the model"));
        if (wrong != 0) System.exit(1);
    }

    /** One object and its model, with drawn calls. */
    private static final class Run {
        final long seed;
        final Random r;
        final GustHome x = new GustHome();
        final Model m = new Model();
        final List<String> said = new ArrayList<>();
        boolean failed = false;
        boolean deeply = false;

        Run(long seed) { this.seed = seed; r = new Random(seed); }

        void due(String call, int got, int want) {
            said.add(call + " = " + got);
            if (got != want && !failed) {
                failed = true;
                wrong++;
                System.out.println("run " + seed + ", call " + said.size() + ": " + call + " answered " + got + ", the model says " + want);
                for (String s : said.subList(Math.max(0, said.size() - 12), said.size())) System.out.println("    " + s);
            }
        }
        void due(String call, boolean got, boolean want) { due(call, got ? 1 : 0, want ? 1 : 0); }

        /** Mostly 0 to most, now and then beside it. */
        int in(int most) {
            int z = r.nextInt(40);
            if (z == 0) return -1;
            if (z == 1) return most + 1;
            if (z == 2) return r.nextInt();
            return r.nextInt(most + 1);
        }

        int go() {
            int n = 60 + r.nextInt(450);
            if (r.nextInt(10) > 0) furnish();
            for (int k = 0; k < n && !failed; k++) call();
            whole();
            return said.size();
        }
        void furnish() {
            int some = 1 + r.nextInt(6);
            for (int g = 0; g < 12; g++) {
                if (r.nextInt(6) >= some) continue;
                gust(g);
                int q = r.nextInt(3) == 0 ? r.nextInt(8) : r.nextInt(3), h = r.nextInt(1024) & r.nextInt(1024);
                if (r.nextInt(5) > 0) due("name(" + g + "," + q + ")", x.name(g, q), m.name(g, q));
                for (int k = 0; k < 10; k++) if ((h >> k & 1) == 1) { boolean b = true; due("habit(" + g + "," + k + "," + b + ")", x.habit(g, k, b), m.habit(g, k, b)); }
            }
            for (int k = 0; k < 5; k++) if (r.nextInt(4) > 0) { int a = r.nextInt(10); due("nurse(" + k + "," + a + ")", x.nurse(k, a), m.nurse(k, a)); }
            for (int w = 0; w < 6; w++) if (r.nextInt(4) > 0) ward(w);
            for (int k = 0; k < 4; k++) if (r.nextInt(4) > 0) wind(k);
            for (int k = 0; k < 10; k++) if (r.nextInt(4) > 0) home(k);
            for (int k = 0; k < 5; k++) if (r.nextInt(3) > 0) house(k);
            text(0);
            text(1);
            for (int k = 0; k < 5; k++) text(2);
        }
        void wind(int k) { int q = r.nextInt(3) == 0 ? in(7) : r.nextInt(3), l = in(255); due("wind(" + k + "," + q + "," + l + ")", x.wind(k, q, l), m.wind(k, q, l)); }
        void home(int k) { int h = r.nextInt(2) == 0 ? in(1023) : r.nextInt(32); due("home(" + k + "," + h + ")", x.home(k, h), m.home(k, h)); }
        void house(int k) { int s = r.nextInt(2) == 0 ? in(99) : r.nextInt(3), h = in(1023); due("house(" + k + "," + s + "," + h + ")", x.house(k, s, h), m.house(k, s, h)); }

        void gust(int g) {
            int s = in(99), t = in(9), w = r.nextInt(3) == 0 ? in(5) : r.nextInt(2), a = r.nextInt(2) == 0 ? in(9) : r.nextInt(3);
            due("gust(" + g + "," + s + "," + t + "," + w + "," + a + ")", x.gust(g, s, t, w, a), m.gust(g, s, t, w, a));
        }
        void ward(int w) {
            int room = r.nextInt(2) == 0 ? in(9) : in(3), d = in(9), k = r.nextInt(6) - 1;
            if (r.nextInt(30) == 0) k = in(5);
            due("ward(" + w + "," + room + "," + d + "," + k + ")", x.ward(w, room, d, k), m.ward(w, room, d, k));
        }
        int feed(byte[] b) {
            int fed = 0;
            for (int k = 0; k < b.length; k += 20) {
                int[] v = new int[5];
                for (int i = 0; i < 20; i++) {
                    int c = k + i < b.length ? b[k + i] & 255 : r.nextInt(256);
                    v[i / 4] = v[i / 4] << 8 | c;
                }
                due("feed", x.feed(v[0], v[1], v[2], v[3], v[4]), m.feed(v[0], v[1], v[2], v[3], v[4]));
                fed += 20;
            }
            return fed;
        }
        void emptyTape() {
            if (m.tape.size() > 0) due("check(0)", x.check(0), m.check(0));
        }
        int bitsOf(int told, int most) {
            if (r.nextInt(25) == 0) return r.nextInt(4096);
            if (r.nextInt(200) == 0) return r.nextInt();
            int bits = 0, want = 1 + r.nextInt(most);
            for (int k = 0; k < 60 && Integer.bitCount(bits) < want; k++) {
                int b = 1 << r.nextInt(12);
                if ((told & b) != 0) bits |= b;
            }
            return bits;
        }
        int ofBits(int bits, int also) {
            int z = r.nextInt(12);
            if (z == 0) return in(22);
            if (z < 4) return also;
            int[] all = new int[32];
            int n = 0;
            for (int k = 0; k < 32; k++) if ((bits >> k & 1) != 0) all[n++] = k;
            return n == 0 ? also : all[r.nextInt(n)];
        }

        void call() {
            int told = m.count(3);
            switch (r.nextInt(46)) {
                case 0: gust(in(11)); break;
                case 1: case 2: { int g = in(11), q = in(7); due("name(" + g + "," + q + ")", x.name(g, q), m.name(g, q)); break; }
                case 3: { int g = in(11), w = in(5); due("moves(" + g + "," + w + ")", x.moves(g, w), m.moves(g, w)); break; }
                case 4: case 5: { int g = in(11), h = in(9); boolean b = r.nextInt(3) > 0; due("habit(" + g + "," + h + "," + b + ")", x.habit(g, h, b), m.habit(g, h, b)); break; }
                case 6: ward(in(5)); break;
                case 7: { int k = in(4), a = in(9); due("nurse(" + k + "," + a + ")", x.nurse(k, a), m.nurse(k, a)); break; }
                case 8: { int l = in(9), b = r.nextInt(4) == 0 ? in(1023) : r.nextInt(1024) & r.nextInt(1024) & r.nextInt(1024); due("needs(" + l + "," + b + ")", x.needs(l, b), m.needs(l, b)); break; }
                case 9: feed(new byte[1 + r.nextInt(60)]); break;
                case 10: case 11: case 12: text(0); break;
                case 13: text(1); break;
                case 14: case 15: text(2); break;
                case 16: case 17: { int n = r.nextInt(3) == 0 ? in(60) : 1 + r.nextInt(4); due("months(" + n + ")", x.months(n), m.months(n)); if (r.nextInt(4) == 0) whole(); break; }
                case 18: case 19: { int n = r.nextInt(3) == 0 ? in(60) : 1 + r.nextInt(4), w = r.nextInt(2) == 0 ? in(7) : in(22); due("tried(" + n + "," + w + ")", x.tried(n, w), m.tried(n, w)); break; }
                case 20: whole(); break;
                case 21: case 22: { int g = in(11), j = in(11); due("quarrel(" + g + "," + j + ")", x.quarrel(g, j), m.quarrel(g, j)); break; }
                case 23: case 24: { int b = bitsOf(told, 6), w = r.nextInt(9) == 0 ? in(63) : 1 << r.nextInt(6) | 1 << r.nextInt(6) | 1 << r.nextInt(6), a = ofBits(b, 20); due("housed(" + b + "," + w + "," + a + ")", x.housed(b, w, a), m.housed(b, w, a)); break; }
                case 25: wind(in(3)); break;
                case 26: case 27: case 28: { int b = bitsOf(told, 6), a = ofBits(b, 20 + r.nextInt(2)); due("leaving(" + b + "," + a + ")", x.leaving(b, a), m.leaving(b, a)); break; }
                case 29: if (r.nextInt(6) == 0) { int b = bitsOf(told, 3); due("letGo(" + b + ")", x.letGo(b), m.letGo(b)); } break;
                case 30: home(in(9)); break;
                case 31: case 32: { int g = in(11), a = r.nextInt(2) == 0 ? in(1023) : r.nextInt(16), w = in(1); due("from(" + g + "," + a + "," + w + ")", x.from(g, a, w), m.from(g, a, w)); break; }
                case 33: case 34: { int g = in(11), h = in(1023), w = r.nextInt(3) == 0 ? 20 : r.nextInt(12) - 1; due("taught(" + g + "," + h + "," + w + ")", x.taught(g, h, w), m.taught(g, h, w)); break; }
                case 35: house(in(4)); break;
                case 36: case 37: { int b = bitsOf(told, 6), a = ofBits(b, 20); due("placed(" + b + "," + a + ")", x.placed(b, a), m.placed(b, a)); break; }
                case 38: fair(told); break;
                case 39: escaped(); break;
                case 40: case 41: { int k = r.nextInt(32), w = r.nextInt(64); if (r.nextInt(4) > 0) { k = m.count(4); while (Integer.bitCount(w) < Integer.bitCount(k)) w |= 1 << r.nextInt(6); while (Integer.bitCount(w) > Integer.bitCount(k)) w &= w - 1; } int a = ofBits(w, 20); due("nursed(" + k + "," + w + "," + a + ")", x.nursed(k, w, a), m.nursed(k, w, a)); break; }
                case 42: case 43: { int b = bitsOf(told, 8), a = r.nextInt(3) == 0 ? 20 : in(8); due("round(" + b + "," + a + ")", x.round(b, a), m.round(b, a)); break; }
                case 44: { int w = in(6), a = in(1); due("added(" + w + "," + a + ")", x.added(w, a), m.added(w, a)); break; }
                default: rest();
            }
        }

        void rest() {
            switch (r.nextInt(8)) {
                case 0: { int s = in(65535); due("seed(" + s + ")", x.seed(s), m.seed(s)); break; }
                case 1: due("keep()", x.keep(), m.keep()); break;
                case 2: due("undo()", x.undo(), m.undo()); if (r.nextInt(3) == 0) whole(); break;
                case 3: check(); break;
                case 4: { int w = in(31); due("count(" + w + ")", x.count(w), m.count(w)); break; }
                case 5: { int g = in(11), w = in(5); due("gustIs(" + g + "," + w + ")", x.gustIs(g, w), m.gustIs(g, w)); break; }
                case 6: { int g = in(5), w = in(6); due("wardIs(" + g + "," + w + ")", x.wardIs(g, w), m.wardIs(g, w)); break; }
                default: { int g = in(4), w = in(1); due("nurseIs(" + g + "," + w + ")", x.nurseIs(g, w), m.nurseIs(g, w)); }
            }
        }

        /** Much of the state at once; these do not count against the calls of an object, which only bound what is promised. */
        void whole() {
            for (int w = 0; w < 32; w++) due("count(" + w + ")", x.count(w), m.count(w));
            for (int g = 0; g < 12; g++) for (int w = 0; w < 6; w++) due("gustIs(" + g + "," + w + ")", x.gustIs(g, w), m.gustIs(g, w));
            for (int g = 0; g < 6; g++) for (int w = 0; w < 7; w++) due("wardIs(" + g + "," + w + ")", x.wardIs(g, w), m.wardIs(g, w));
            for (int g = 0; g < 5; g++) for (int w = 0; w < 2; w++) due("nurseIs(" + g + "," + w + ")", x.nurseIs(g, w), m.nurseIs(g, w));
        }

        void check() {
            emptyTape();
            int n = in(12);
            byte[] b = new byte[20];
            for (int g = 0; g < 12; g++) b[g] = (byte) (r.nextInt(30) == 0 ? r.nextInt(100) : Math.max(0, m.gustIs(g, 0)));
            if (r.nextInt(10) > 0) feed(b);
            due("check(" + n + ")", x.check(n), m.check(n));
        }
        void fair(int told) {
            emptyTape();
            byte[] b = new byte[6];
            List<Integer> some = new ArrayList<>();
            for (int k = 0; k < 5; k++) if ((m.count(11) >> k & 1) != 0) some.add(k);
            for (int k = 0; k < 6; k++) {
                b[k] = (byte) (r.nextInt(3) == 0 || some.isEmpty() ? 255 : some.remove(r.nextInt(some.size())));
                if (r.nextInt(40) == 0) b[k] = (byte) r.nextInt(7);
            }
            if (r.nextInt(15) > 0) feed(b);
            int bits = bitsOf(told, 6);
            due("fair(" + bits + ") by " + Arrays.toString(b), x.fair(bits), m.fair(bits));
        }
        void escaped() {
            int n = in(8), v = in(r.nextInt(2) == 0 ? 99 : 8), at = in(255), w = r.nextInt(2) == 0 ? in(2) : in(99);
            int seen = n >= 1 && n <= 8 ? n : 1;
            byte[] b = new byte[3 * seen];
            int hour = r.nextInt(20), spot = r.nextInt(200);
            for (int k = 0; k < seen; k++) {
                b[3 * k] = (byte) hour;
                int low = Math.max(0, Math.min(250, spot)), high = Math.min(250, low + r.nextInt(25));
                b[3 * k + 1] = (byte) low;
                b[3 * k + 2] = (byte) high;
                if (r.nextInt(60) == 0) b[3 * k + r.nextInt(3)] = (byte) r.nextInt(256);
                hour += r.nextInt(50) == 0 ? 0 : 1 + r.nextInt(12);
                spot += r.nextInt(31) - 15;
            }
            emptyTape();
            if (r.nextInt(15) > 0) feed(b);
            due("escaped(" + n + "," + v + "," + at + "," + w + ") by " + Arrays.toString(b), x.escaped(n, v, at, w), m.escaped(n, v, at, w));
        }

        // ---- drawn texts ----
        void text(int kind) {
            emptyTape();
            deeply = r.nextInt(12) == 0;
            StringBuilder t = new StringBuilder();
            if (kind == 0) lawText(t); else if (kind == 1) rulesText(t); else monthsText(t, 0, 1 + r.nextInt(5));
            int most = kind == 2 ? 60 : 240;
            if (t.length() > most && r.nextInt(3) > 0) t.setLength(Math.max(1, t.lastIndexOf(";", most) < 1 ? most : t.lastIndexOf(";", most)));
            if (r.nextInt(6) == 0 && t.length() > 0) spoil(t);
            byte[] b = new byte[t.length()];
            for (int k = 0; k < b.length; k++) b[k] = (byte) t.charAt(k);
            int fed = feed(b.length > 260 ? Arrays.copyOf(b, 260) : b);
            int n = r.nextInt(40) == 0 ? in(most) : b.length;
            if (fed == 0) n = in(most);
            if (kind == 0) due("law(" + n + ") " + t, x.law(n), m.law(n));
            else if (kind == 1) due("rules(" + n + ") " + t, x.rules(n), m.rules(n));
            else { int w = in(5); due("timetable(" + w + "," + n + ") " + t, x.timetable(w, n), m.timetable(w, n)); }
        }
        void spoil(StringBuilder t) {
            String signs = "fgbiex()[]!&|<>=+-*/%;sqthdwoplanvuzm0123456789ABJK. \u00e9";
            int at = r.nextInt(t.length());
            char c = signs.charAt(r.nextInt(signs.length()));
            switch (r.nextInt(4)) {
                case 0: t.setCharAt(at, c); break;
                case 1: t.insert(at, c); break;
                case 2: t.deleteCharAt(at); if (t.length() == 0) t.append(c); break;
                default: t.setLength(at + 1);
            }
        }
        void lawText(StringBuilder t) {
            int n = r.nextInt(12) == 0 ? 14 + r.nextInt(5) : 1 + r.nextInt(7);
            boolean small = n > 10, plain = r.nextInt(3) > 0;
            for (int k = 0; k < n; k++) {
                if (k > 0) t.append(';');
                char c = plain ? "xfgbiexe".charAt(k % 8) : "fgbiexxe".charAt(r.nextInt(8));
                t.append(c);
                String own = c == 'i' ? "wanm" : c == 'e' ? "sqthdwlm" : c == 'x' ? "sqthdwopm" : "sqthdwm";
                if (r.nextInt(8) == 0) own = "sqthdwoplanvuzm";
                if (c != 'e' && c != 'x') sum(t, own, small ? 4 : 0, 0);
                t.append('(');
                condition(t, own, small ? 4 : 0, 1);
                t.append(')');
            }
        }
        void rulesText(StringBuilder t) {
            int n = r.nextInt(10) == 0 ? 11 + r.nextInt(3) : 1 + r.nextInt(5);
            for (int k = 0; k < n; k++) {
                if (k > 0) t.append(';');
                t.append('(');
                condition(t, r.nextInt(8) == 0 ? "sqthdwoplanvuzm" : "wanvuzm", n > 8 ? 4 : 0, 1);
                t.append(')');
            }
        }
        void condition(StringBuilder t, String own, int tired, int deep) {
            int parts = r.nextInt(4 + tired) < 3 + tired ? 1 : 2;
            for (int p = 0; p < parts; p++) {
                if (p > 0) t.append('|');
                int tests = r.nextInt(4 + tired) < 3 + tired ? 1 : 2;
                for (int k = 0; k < tests; k++) {
                    if (k > 0) t.append('&');
                    test(t, own, tired, deep);
                }
            }
        }
        void test(StringBuilder t, String own, int tired, int deep) {
            boolean stop = deep >= 6 && r.nextInt(20) > 0 || deep > 7;
            int z = stop ? 9 : r.nextInt(deeply ? 4 : 8 + 4 * tired);
            if (z == 0) { t.append('!'); test(t, own, tired, deep + 1); }
            else if (z == 1) { t.append('('); condition(t, own, tired, deep + 1); t.append(')'); }
            else { sum(t, own, tired + 1, deep); t.append("<>=".charAt(r.nextInt(3))); sum(t, own, tired + 1, deep); }
        }
        void sum(StringBuilder t, String own, int tired, int deep) {
            int n = r.nextInt(3 + tired) < 2 + tired ? 1 : 2;
            for (int k = 0; k < n; k++) { if (k > 0) t.append("+-".charAt(r.nextInt(2))); term(t, own, tired + 1, deep); }
        }
        void term(StringBuilder t, String own, int tired, int deep) {
            int n = r.nextInt(3 + tired) < 2 + tired ? 1 : 2;
            for (int k = 0; k < n; k++) { if (k > 0) t.append("*/%".charAt(r.nextInt(3))); factor(t, own, tired + 1, deep); }
        }
        void factor(StringBuilder t, String own, int tired, int deep) {
            boolean stop = deep >= 6 && r.nextInt(20) > 0 || deep > 7;
            int z = stop ? 1 + r.nextInt(7) : r.nextInt(deeply ? 3 : 8);
            if (z == 0) { t.append('['); sum(t, own, tired + 1, deep + 1); t.append(']'); }
            else if (z < 4) t.append(r.nextInt(150) == 0 ? String.valueOf(r.nextInt(2000000)) : String.valueOf(r.nextInt(r.nextInt(3) == 0 ? 100 : 10)));
            else t.append(own.charAt(r.nextInt(own.length())));
        }
        void monthsText(StringBuilder t, int deep, int n) {
            for (int k = 0; k < n; k++) {
                if (r.nextInt(3) == 0) t.append((char) ('2' + r.nextInt(8)));
                int z = r.nextInt(6);
                if (z == 0 && (deep < 2 || r.nextInt(8) == 0) && deep < 4) { t.append('('); monthsText(t, deep + 1, 1 + r.nextInt(4)); t.append(')'); }
                else if (z == 1) t.append('.');
                else t.append((char) ('A' + r.nextInt(10)));
            }
        }
    }

    // ==== the model ====

    private static final class Fault extends Exception {
        private static final long serialVersionUID = 1L;
        final int answer;
        Fault(int number, int place) { answer = -1000 * number - place; }
    }
    private static final class Refused extends Exception {
        private static final long serialVersionUID = 1L;
    }

    private static final class Gust implements Cloneable {
        int strength, temper, ward, gale, habits;
        int quarter = 8;
        Gust copy() { Gust g = new Gust(); g.strength = strength; g.temper = temper; g.ward = ward; g.gale = gale; g.habits = habits; g.quarter = quarter; return g; }
    }
    private static final class Nurse {
        int asthma, ill;
        Nurse copy() { Nurse n = new Nurse(); n.asthma = asthma; n.ill = ill; return n; }
    }

    /** What is asked of a text: the letters' values. */
    private interface Letters { int of(char c); }

    /** A text, read from its signs each time; "ask" false: only its form is looked at. */
    private static final class Sentence {
        final String t;
        int at;
        boolean ask;
        Letters letters;
        Sentence(String t) { this.t = t; }
        char sign() { return at < t.length() ? t.charAt(at) : 0xffff; }
        void must(char c) throws Fault { if (sign() != c) throw new Fault(1, at); at++; }
        boolean c(int deep) throws Fault, Refused {
            boolean was = ask;
            boolean holds = part(deep);
            while (sign() == '|') { at++; ask = was && !holds; boolean p = part(deep); if (ask) holds = p; }
            ask = was;
            return holds;
        }
        boolean part(int deep) throws Fault, Refused {
            boolean was = ask;
            boolean holds = test(deep);
            while (sign() == '&') { at++; ask = was && holds; boolean p = test(deep); if (ask) holds = p; }
            ask = was;
            return holds;
        }
        void deeper(int deep) throws Fault { if (deep == 6) throw new Fault(5, at); at++; }
        boolean test(int deep) throws Fault, Refused {
            if (sign() == '!') { deeper(deep); return !test(deep + 1); }
            if (sign() == '(') { deeper(deep); boolean b = c(deep + 1); must(')'); return b; }
            int left = e(deep);
            char how = sign();
            if (how != '<' && how != '>' && how != '=') throw new Fault(1, at);
            at++;
            int right = e(deep);
            return how == '<' ? left < right : how == '>' ? left > right : left == right;
        }
        int e(int deep) throws Fault, Refused {
            int v = term(deep);
            while (sign() == '+' || sign() == '-') { char how = sign(); at++; int w = term(deep); v = how == '+' ? v + w : v - w; }
            return v;
        }
        int term(int deep) throws Fault, Refused {
            int v = factor(deep);
            while (sign() == '*' || sign() == '/' || sign() == '%') {
                char how = sign();
                at++;
                int w = factor(deep);
                if (how == '*') v *= w;
                else if (!ask) v = 0;
                else if (w == 0) throw new Refused();
                else v = how == '/' ? v / w : v % w;
            }
            return v;
        }
        int factor(int deep) throws Fault, Refused {
            char c = sign();
            if (c == '[') { deeper(deep); int v = e(deep + 1); must(']'); return v; }
            if (c >= '0' && c <= '9') {
                int first = at;
                while (sign() >= '0' && sign() <= '9') { if (at - first == 5) throw new Fault(2, at); at++; }
                return Integer.parseInt(t.substring(first, at));
            }
            if ("sqthdwoplanvuzm".indexOf(c) < 0) throw new Fault(1, at);
            at++;
            return ask ? letters.of(c) : 0;
        }
    }

    private static final class Clause {
        char letter;
        String e, c;
    }

    private static final class Model {
        Gust[] gusts = new Gust[12];
        Nurse[] nurses = new Nurse[5];
        int[] places = new int[6];
        int month, toys, whistles, x = 1;
        int[][] ward = new int[6][];
        String[] tables = new String[6];
        int[] needs = new int[10];
        List<Clause> law = new ArrayList<>(), rules = new ArrayList<>();
        List<Integer> tape = new ArrayList<>();
        int[][] winds = new int[4][], houses = new int[5][];
        int[] homes = new int[10];
        Model kept;
        int learnt, ill, badMonths, badRule, badWard;

        Model() {
            for (int w = 0; w < 6; w++) { ward[w] = new int[] {9, 0, -1}; tables[w] = ""; }
            Arrays.fill(homes, -1);
        }
        static boolean in(int v, int least, int most) { return v >= least && v <= most; }
        Gust g(int g) { return in(g, 0, 11) ? gusts[g] : null; }
        Nurse n(int k) { return in(k, 0, 4) ? nurses[k] : null; }
        void stateFrom(Model o) {
            for (int g = 0; g < 12; g++) gusts[g] = o.gusts[g] == null ? null : o.gusts[g].copy();
            for (int k = 0; k < 5; k++) nurses[k] = o.nurses[k] == null ? null : o.nurses[k].copy();
            places = o.places.clone();
            month = o.month; toys = o.toys; whistles = o.whistles; x = o.x;
        }

        boolean gust(int g, int s, int t, int w, int a) {
            if (!in(g, 0, 11) || !in(s, 0, 99) || !in(t, 0, 9) || !in(w, 0, 5) || !in(a, 0, 9)) return false;
            Gust n = new Gust();
            n.strength = s; n.temper = t; n.ward = w; n.gale = a;
            gusts[g] = n;
            return true;
        }
        boolean name(int g, int q) { if (g(g) == null || !in(q, 0, 7)) return false; g(g).quarter = q; return true; }
        boolean moves(int g, int w) {
            if (g(g) == null || !in(w, 0, 5) || g(g).ward == w || those(w).size() >= ward[w][0]) return false;
            g(g).ward = w;
            return true;
        }
        List<Integer> those(int w) { List<Integer> l = new ArrayList<>(); for (int g = 0; g < 12; g++) if (gusts[g] != null && gusts[g].ward == w) l.add(g); return l; }
        boolean habit(int g, int h, boolean has) {
            if (g(g) == null || !in(h, 0, 9)) return false;
            g(g).habits &= ~(1 << h);
            if (has) g(g).habits += 1 << h;
            return true;
        }
        boolean ward(int w, int room, int dust, int k) {
            if (!in(w, 0, 5) || !in(room, 0, 9) || !in(dust, 0, 9) || !in(k, -1, 4)) return false;
            ward[w] = new int[] {room, dust, k};
            return true;
        }
        boolean nurse(int k, int a) { if (!in(k, 0, 4) || !in(a, 0, 9)) return false; nurses[k] = new Nurse(); nurses[k].asthma = a; return true; }
        boolean needs(int l, int b) { if (!in(l, 0, 9) || !in(b, 0, 1023) || (b & 1 << l) != 0) return false; needs[l] = b; return true; }
        int feed(int... v) {
            if (tape.size() + 20 > 260) return -1;
            for (int i : v) for (int k = 3; k >= 0; k--) tape.add(i >>> 8 * k & 255);
            return tape.size();
        }
        String take(int n) {
            StringBuilder t = new StringBuilder();
            for (int k = 0; k < n; k++) t.append((char) (int) tape.get(k));
            tape.clear();
            return t.toString();
        }
        int law(int n) {
            if (!in(n, 1, 240) || n > tape.size()) return -1;
            try { law = clauses(take(n), true); return law.size(); } catch (Fault f) { return f.answer; } catch (Refused r) { throw new IllegalStateException(); }
        }
        int rules(int n) {
            if (!in(n, 1, 240) || n > tape.size()) return -1;
            try { rules = clauses(take(n), false); return rules.size(); } catch (Fault f) { return f.answer; } catch (Refused r) { throw new IllegalStateException(); }
        }
        List<Clause> clauses(String t, boolean isLaw) throws Fault, Refused {
            List<Clause> all = new ArrayList<>();
            Sentence s = new Sentence(t);
            while (true) {
                Clause c = new Clause();
                if (isLaw) {
                    c.letter = s.sign();
                    if ("fgbiex".indexOf(c.letter) < 0) throw new Fault(1, s.at);
                    if (all.size() == 16) throw new Fault(4, s.at);
                    s.at++;
                    int from = s.at;
                    if ("fgbi".indexOf(c.letter) >= 0) s.e(0);
                    c.e = t.substring(from, s.at);
                } else if (s.sign() == '(' && all.size() == 12) throw new Fault(4, s.at);
                s.must('(');
                int from = s.at;
                s.c(1);
                c.c = t.substring(from, s.at);
                s.must(')');
                all.add(c);
                if (s.at == t.length()) return all;
                s.must(';');
            }
        }
        boolean holds(Clause c, Letters l) {
            Sentence s = new Sentence(c.c);
            s.ask = true;
            s.letters = l;
            try { return s.c(1); } catch (Refused r) { return false; } catch (Fault f) { throw new IllegalStateException(); }
        }
        int amount(char letter, Letters l, int most) {
            for (Clause c : law) {
                if (c.letter != letter || !holds(c, l)) continue;
                Sentence s = new Sentence(c.e);
                s.ask = true;
                s.letters = l;
                try { int v = s.e(0); return v < 0 ? 0 : v > most ? most : v; } catch (Refused r) { return 0; } catch (Fault f) { throw new IllegalStateException(); }
            }
            return 0;
        }
        boolean any(char letter, Letters l) { for (Clause c : law) if (c.letter == letter && holds(c, l)) return true; return false; }
        Letters ofGust(Gust g, Gust other, int lesson) {
            return c -> {
                switch (c) {
                    case 's': return g.strength;
                    case 'q': return g.quarter;
                    case 't': return g.temper;
                    case 'h': return Integer.bitCount(g.habits);
                    case 'd': return ward[g.ward][1];
                    case 'w': return g.ward;
                    case 'o': return other == null ? 0 : other.strength;
                    case 'p': return other == null ? 0 : other.quarter;
                    case 'l': return lesson;
                    case 'm': return month % 12;
                    default: return 0;
                }
            };
        }
        int tenths(int w, int k) {
            return amount('i', c -> c == 'w' ? w : c == 'a' ? nurses[k].asthma : c == 'n' ? those(w).size() : c == 'm' ? month % 12 : 0, 10);
        }
        int firstBroken(int w) {
            Letters l = c -> {
                switch (c) {
                    case 'w': return w;
                    case 'a': return n(ward[w][2]) == null ? 0 : n(ward[w][2]).asthma;
                    case 'n': return those(w).size();
                    case 'v': return those(w).stream().mapToInt(g -> gusts[g].strength).sum();
                    case 'u': return toys;
                    case 'z': return whistles;
                    case 'm': return month % 12;
                    default: return 0;
                }
            };
            for (int k = 0; k < rules.size(); k++) if (!holds(rules.get(k), l)) return k;
            return -2;
        }
        int timetable(int w, int n) {
            if (!in(w, 0, 5) || !in(n, 1, 60) || n > tape.size()) return -1;
            String t = take(n);
            try {
                int[] at = {0};
                String all = months(t, at, 0, "");
                if (at[0] < n) throw new Fault(1, at[0]);
                tables[w] = all;
                places[w] = 0;
                return all.length();
            } catch (Fault f) { return f.answer; }
        }
        /** "ahead": all that stands ahead of these, each once more or many times. */
        String months(String t, int[] at, int deep, String ahead) throws Fault {
            String all = ahead;
            do {
                int first = at[0];
                int times = 1;
                if (at[0] < t.length() && t.charAt(at[0]) >= '2' && t.charAt(at[0]) <= '9') times = t.charAt(at[0]++) - '0';
                char c = at[0] < t.length() ? t.charAt(at[0]) : 0;
                String what;
                if (c == '(') {
                    if (deep == 2) throw new Fault(5, at[0]);
                    at[0]++;
                    what = months(t, at, deep + 1, all).substring(all.length());
                    if (at[0] >= t.length() || t.charAt(at[0]) != ')') throw new Fault(1, at[0]);
                } else if (c == '.' || c >= 'A' && c <= 'J') what = String.valueOf(c);
                else throw new Fault(1, at[0]);
                at[0]++;
                for (int k = 0; k < times; k++) all += what;
                if (all.length() > 48) throw new Fault(6, first);
            } while (at[0] < t.length() && t.charAt(at[0]) != ')');
            return all;
        }
        int lesson(int w) { return tables[w].isEmpty() || tables[w].charAt(places[w]) == '.' ? -2 : tables[w].charAt(places[w]) - 'A'; }

        void go(int n) {
            learnt = 0; ill = 0; badMonths = 0; badRule = -2; badWard = -2;
            for (int k = 0; k < n; k++) if (month < 9999) month();
        }
        boolean quarrels(int g, int j) { return any('x', ofGust(gusts[g], gusts[j], 0)) || any('x', ofGust(gusts[j], gusts[g], 0)); }
        void month() {
            if (month % 12 == 11 || month % 12 < 2)
                for (Gust g : gusts) if (g != null) { g.strength -= amount('g', ofGust(g, null, 0), 20); if (g.strength < 0) g.strength = 0; }
            for (int w = 0; w < 6; w++) {
                int lesson = lesson(w);
                if (!tables[w].isEmpty()) places[w] = (places[w] + 1) % tables[w].length();
                Nurse k = n(ward[w][2]);
                if (k == null || k.ill > 0) continue;
                if (ward[w][1] > 0) for (int g : those(w)) gusts[g].strength = Math.min(99, gusts[g].strength + amount('f', ofGust(gusts[g], null, 0), 20));
                if (lesson >= 0) for (int g : those(w)) {
                    int h = gusts[g].habits;
                    if ((h >> lesson & 1) == 1 || (h & needs[lesson]) != needs[lesson]) continue;
                    if (any('e', ofGust(gusts[g], null, lesson))) { gusts[g].habits += 1 << lesson; learnt++; }
                }
            }
            for (Gust g : gusts) if (g != null) toys += amount('b', ofGust(g, null, 0), 20);
            for (int g = 0; g < 12; g++) for (int j = g + 1; j < 12; j++) {
                if (gusts[g] == null || gusts[j] == null || gusts[g].ward != gusts[j].ward || !quarrels(g, j)) continue;
                whistles++;
                if (gusts[g].temper < 9) gusts[g].temper++;
                if (gusts[j].temper < 9) gusts[j].temper++;
            }
            for (Nurse k : nurses) if (k != null && k.ill > 0) k.ill--;
            for (int w = 0; w < 6; w++) {
                Nurse k = n(ward[w][2]);
                if (k == null || k.ill > 0 || those(w).isEmpty()) continue;
                x = (int) ((25173L * x + 13849) % 65536);
                if (x % 10 < tenths(w, ward[w][2])) { k.ill = k.asthma + 1; ill++; }
            }
            find:
            for (int rule = 0; rule < rules.size(); rule++) for (int w = 0; w < 6; w++) {
                if (firstBroken(w) != rule) continue;
                if (badMonths++ == 0) { badRule = rule; badWard = w; }
                break find;
            }
            month++;
        }
        int months(int n) { if (!in(n, 1, 60)) return -1; go(n); return learnt; }
        int tried(int n, int what) {
            if (!in(n, 1, 60) || !in(what, 0, 6) && g(what - 10) == null) return -1;
            Model was = new Model();
            was.stateFrom(this);
            go(n);
            int answer = what == 0 ? learnt : what == 1 ? toys - was.toys : what == 2 ? whistles - was.whistles : what == 3 ? ill
                    : what == 4 ? badMonths : what == 5 ? badRule : what == 6 ? badWard : gusts[what - 10].strength;
            stateFrom(was);
            return answer;
        }
        int gustIs(int g, int what) {
            Gust a = g(g);
            if (a == null || !in(what, 0, 5)) return -1;
            return new int[] {a.strength, a.quarter == 8 ? -2 : a.quarter, a.temper, a.ward, a.gale, a.habits}[what];
        }
        int wardIs(int w, int what) {
            if (!in(w, 0, 5) || !in(what, 0, 6)) return -1;
            return new int[] {ward[w][0], ward[w][1], ward[w][2] < 0 ? -2 : ward[w][2], those(w).stream().mapToInt(g -> 1 << g).sum(),
                tables[w].length(), lesson(w), firstBroken(w)}[what];
        }
        int nurseIs(int k, int what) { return n(k) == null || !in(what, 0, 1) ? -1 : what == 0 ? n(k).asthma : n(k).ill; }
        int quarrel(int g, int j) { return g(g) == null || g(j) == null || g == j ? -1 : quarrels(g, j) ? 1 : 0; }

        /** The places of the bits, or null if they are not all among "may", or not so many. */
        static int[] some(int bits, int may, int least, int most) {
            if ((bits & ~may) != 0 || Integer.bitCount(bits) < least || Integer.bitCount(bits) > most) return null;
            int[] l = new int[Integer.bitCount(bits)];
            for (int k = 0, n = 0; k < 32; k++) if ((bits >>> k & 1) != 0) l[n++] = k;
            return l;
        }
        static int index(int[] l, int v) { for (int k = 0; k < l.length; k++) if (l[k] == v) return k; return -1; }
        static boolean next(int[] row, int below) {
            for (int k = row.length - 1; k >= 0; k--) { if (++row[k] < below) return true; row[k] = 0; }
            return false;
        }
        int housed(int bits, int wardBits, int what) {
            int[] l = some(bits, count(3), 1, 6), ws = some(wardBits, 63, 1, 3);
            if (l == null || ws == null || what != 20 && index(l, what) < 0) return -1;
            int[] row = new int[l.length], best = null;
            int fewest = 99;
            boolean[][] odd = new boolean[l.length][l.length];
            for (int i = 0; i < l.length; i++) for (int j = 0; j < l.length; j++) odd[i][j] = i != j && quarrels(l[i], l[j]);
            do {
                int twos = 0;
                int[] load = new int[ws.length];
                boolean fits = true;
                for (int i = 0; i < l.length; i++) {
                    if (++load[row[i]] > ward[ws[row[i]]][0]) fits = false;
                    for (int j = 0; j < i; j++) if (row[i] == row[j] && odd[i][j]) twos++;
                }
                if (fits && twos < fewest) { fewest = twos; best = row.clone(); }
            } while (next(row, ws.length));
            return best == null ? -2 : what == 20 ? fewest : ws[best[index(l, what)]];
        }
        boolean wind(int k, int q, int l) { if (!in(k, 0, 3) || !in(q, 0, 7) || !in(l, 0, 255)) return false; winds[k] = new int[] {q, l}; return true; }
        int go, goStrength;
        int[] leave(int[] l) {
            int[] row = new int[l.length], best = null;
            go = -1;
            do {
                int n = 0, s = 0;
                int[] load = new int[4];
                boolean fits = true;
                for (int i = 0; i < l.length && fits; i++) {
                    Gust a = gusts[l[i]];
                    for (int j = 0; j < i; j++) if (gusts[l[j]].gale == a.gale && row[i] != row[j]) fits = false;
                    if (row[i] == 4) continue;
                    int[] w = winds[row[i]];
                    if (w == null || a.quarter == 8 || (a.quarter + 1) % 8 != w[0] && a.quarter != w[0] && a.quarter != (w[0] + 1) % 8) { fits = false; continue; }
                    load[row[i]] += a.strength;
                    if (load[row[i]] > w[1]) fits = false;
                    n++;
                    s += a.strength;
                }
                if (fits && (n > go || n == go && s > goStrength)) { go = n; goStrength = s; best = row.clone(); }
            } while (next(row, 5));
            return best;
        }
        int leaving(int bits, int what) {
            int[] l = some(bits, count(3), 1, 6);
            if (l == null || what != 20 && what != 21 && index(l, what) < 0) return -1;
            int[] row = leave(l);
            return what == 20 ? go : what == 21 ? goStrength : row[index(l, what)];
        }
        int letGo(int bits) {
            int[] l = some(bits, count(3), 1, 6);
            if (l == null) return -1;
            int[] row = leave(l);
            int gone = 0;
            for (int k = 0; k < l.length; k++) if (row[k] < 4) { gone += 1 << l[k]; gusts[l[k]] = null; }
            return gone;
        }
        boolean home(int k, int h) { if (!in(k, 0, 9) || !in(h, 0, 1023)) return false; homes[k] = h; return true; }
        int from(int g, int asked, int what) {
            if (g(g) == null || !in(asked, 0, 1023) || !in(what, 0, 1)) return -1;
            List<Integer> fit = new ArrayList<>();
            int bits = 0;
            for (int k = 0; k < 10; k++) if (homes[k] >= 0 && (homes[k] & asked) == (g(g).habits & asked)) { fit.add(homes[k]); bits += 1 << k; }
            if (what == 0) return bits;
            int best = -2, part = fit.size();
            for (int h = 0; h < 10; h++) {
                if ((asked >> h & 1) == 1) continue;
                int bit = 1 << h;
                int with = (int) fit.stream().filter(v -> (v & bit) != 0).count();
                int p = Math.max(with, fit.size() - with);
                if (p < part) { part = p; best = h; }
            }
            return best;
        }
        int taught(int g, int habits, int what) {
            if (g(g) == null || !in(habits, 0, 1023)) return -1;
            int has = g(g).habits, set = habits & ~has;
            for (int before = -1; before != set; ) {
                before = set;
                for (int k = 0; k < 10; k++) if ((before >> k & 1) == 1) set |= needs[k] & ~has;
            }
            List<Integer> row = new ArrayList<>();
            while (set != 0) {
                int next = -1;
                for (int k = 9; k >= 0; k--) if ((set >> k & 1) == 1 && (needs[k] & ~has) == 0) next = k;
                if (next < 0) return -2;
                row.add(next);
                has |= 1 << next;
                set &= ~(1 << next);
            }
            return what == 20 ? row.size() : in(what, 0, row.size() - 1) ? row.get(what) : -4;
        }
        boolean house(int k, int rise, int h) { if (!in(k, 0, 4) || !in(rise, 0, 99) || !in(h, 0, 1023)) return false; houses[k] = new int[] {rise, h}; return true; }
        boolean gustLikes(int h, int than) { return than < 0 || houses[h][0] > houses[than][0] || houses[h][0] == houses[than][0] && h < than; }
        boolean houseLikes(int h, int g, int than) {
            if (than < 0) return true;
            int a = Integer.bitCount(gusts[g].habits & houses[h][1]), b = Integer.bitCount(gusts[than].habits & houses[h][1]);
            if (a != b) return a > b;
            if (gusts[g].strength != gusts[than].strength) return gusts[g].strength > gusts[than].strength;
            return g < than;
        }
        /** Asking in rounds, as the document tells it. */
        int placed(int bits, int what) {
            int[] l = some(bits, count(3), 1, 6);
            if (l == null || index(l, what) < 0) return -1;
            List<Integer> order = new ArrayList<>();
            for (int k = 0; k < 5; k++) if (houses[k] != null) order.add(k);
            order.sort((p, q) -> gustLikes(p, q) ? -1 : 1);
            int[] keeps = {-1, -1, -1, -1, -1};
            int[] asks = new int[l.length];
            for (boolean again = true; again; ) {
                again = false;
                for (int i = l.length - 1; i >= 0; i--) {
                    boolean has = false;
                    for (int k : keeps) if (k == l[i]) has = true;
                    if (has || asks[i] == order.size()) continue;
                    int h = order.get(asks[i]++);
                    if (houseLikes(h, l[i], keeps[h])) keeps[h] = l[i];
                    again = true;
                }
            }
            for (int h = 0; h < 5; h++) if (keeps[h] == what) return h;
            return -2;
        }
        int fair(int bits) {
            int[] l = some(bits, count(3), 1, 6);
            if (l == null || tape.size() < l.length) return -1;
            String t = take(l.length);
            int[] in = {-1, -1, -1, -1, -1};
            for (int k = 0; k < l.length; k++) {
                int h = t.charAt(k);
                if (h == 255) continue;
                if (h > 4 || houses[h] == null || in[h] >= 0) return -2;
                in[h] = l[k];
            }
            int twos = 0;
            for (int k = 0; k < l.length; k++) for (int h = 0; h < 5; h++) {
                if (houses[h] == null || in[h] == l[k]) continue;
                int own = t.charAt(k) == 255 ? -1 : t.charAt(k);
                if (gustLikes(h, own) && houseLikes(h, l[k], in[h])) twos++;
            }
            return twos;
        }
        /** Spot by spot and hour by hour. */
        int escaped(int n, int v, int at, int what) {
            if (!in(n, 1, 8) || !in(v, 0, 99) || !in(at, 0, 255) || !in(what, 0, 99) || 3 * n > tape.size()) return -1;
            String t = take(3 * n);
            int[][] seen = new int[256][];
            int before = -1;
            for (int k = 0; k < n; k++) {
                int h = t.charAt(3 * k), a = t.charAt(3 * k + 1), b = t.charAt(3 * k + 2);
                if (a > 250 || b > 250 || a > b || h <= before) return -3;
                seen[h] = new int[] {a, b};
                before = h;
            }
            boolean[][] ahead = new boolean[256][251], behind = new boolean[256][251];
            for (int h = 0; h < 256; h++) for (int s = 0; s < 251; s++) ahead[h][s] = (seen[h] == null || in(s, seen[h][0], seen[h][1])) && (h == 0 || near(ahead[h - 1], s, v));
            for (int h = 255; h >= 0; h--) for (int s = 0; s < 251; s++) behind[h][s] = (seen[h] == null || in(s, seen[h][0], seen[h][1])) && (h == 255 || near(behind[h + 1], s, v));
            int low = -1, high = -1;
            for (int s = 0; s < 251; s++) if (ahead[at][s] && behind[at][s]) { if (low < 0) low = s; high = s; }
            if (low < 0) return -2;
            if (what < 2) return what == 0 ? low : high;
            int nets = 0;
            for (int s = low; s <= high; s += what) nets++;
            return nets;
        }
        static boolean near(boolean[] may, int s, int v) {
            for (int k = Math.max(0, s - v); k <= Math.min(250, s + v); k++) if (may[k]) return true;
            return false;
        }
        int nursed(int bits, int wardBits, int what) {
            int[] ks = some(bits, count(4), 1, 5), ws = some(wardBits, 63, 1, 5);
            if (ks == null || ws == null || ks.length != ws.length || what != 20 && index(ws, what) < 0) return -1;
            int[] row = new int[ks.length], best = null;
            int least = 999;
            do {
                int sum = 0, used = 0;
                for (int i = 0; i < row.length; i++) used |= 1 << row[i];
                if (Integer.bitCount(used) < row.length) continue;
                for (int i = 0; i < row.length; i++) sum += tenths(ws[i], ks[row[i]]);
                if (sum < least) { least = sum; best = row.clone(); }
            } while (next(row, row.length));
            return what == 20 ? least : ks[best[index(ws, what)]];
        }
        int rows;
        int[] firstRow;
        int round(int bits, int what) {
            int[] l = some(bits, count(3), 3, 8);
            if (l == null || what != 20 && !in(what, 0, l.length - 1)) return -1;
            rows = 0;
            firstRow = null;
            boolean[][] odd = new boolean[12][12];
            for (int a : l) for (int b : l) odd[a][b] = a != b && quarrels(a, b);
            int[] row = new int[l.length];
            row[0] = l[0];
            walk(l, row, 1, odd);
            return what == 20 ? rows : rows == 0 ? -2 : firstRow[what];
        }
        void walk(int[] l, int[] row, int n, boolean[][] odd) {
            if (n == l.length) {
                if (odd[row[n - 1]][row[0]]) return;
                if (rows++ == 0) firstRow = row.clone();
                return;
            }
            for (int g : l) {
                boolean there = false;
                for (int k = 0; k < n; k++) if (row[k] == g) there = true;
                if (there || odd[row[n - 1]][g]) continue;
                row[n] = g;
                walk(l, row, n + 1, odd);
            }
        }
        int added(int w, int what) {
            if (!in(w, 0, 6) || !in(what, 0, 1)) return -1;
            int[][] doubled = {{0, 1, 2, 1, 0, -1, -2, -1, 0}, {2, 1, 0, -1, -2, -1, 0, 1, 0}};
            int sum = 0;
            for (Gust g : gusts) {
                if (g == null || w < 6 && g.ward != w) continue;
                int f = doubled[what][g.quarter];
                int part = Math.abs(f) == 2 ? g.strength : f == 0 ? 0 : g.strength / 2;
                sum += f < 0 ? -part : part;
            }
            return sum;
        }
        boolean seed(int s) { if (!in(s, 0, 65535)) return false; x = s; return true; }
        int keep() { kept = new Model(); kept.stateFrom(this); return Integer.bitCount(count(3)); }
        boolean undo() {
            if (kept == null) return false;
            stateFrom(kept);
            for (int w = 0; w < 6; w++) if (places[w] >= tables[w].length()) places[w] = 0;
            return true;
        }
        int check(int n) {
            if (!in(n, 0, 12) || n > tape.size()) return -2;
            String t = take(n);
            for (int k = 0; k < n; k++) if (t.charAt(k) != (gusts[k] == null ? 0 : gusts[k].strength)) return k;
            return -1;
        }
        int count(int what) {
            int g = 0, k = 0, w = 0, h = 0, o = 0;
            for (int i = 0; i < 12; i++) {
                if (gusts[i] != null) g += 1 << i;
                if (i < 5 && nurses[i] != null) k += 1 << i;
                if (i < 4 && winds[i] != null) w += 1 << i;
                if (i < 10 && homes[i] >= 0) h += 1 << i;
                if (i < 5 && houses[i] != null) o += 1 << i;
            }
            if (in(what, 20, 29)) return needs[what - 20];
            return in(what, 0, 11) ? new int[] {month, toys, whistles, g, k, law.size(), rules.size(), tape.size(), x, w, h, o}[what] : -1;
        }
    }
}
