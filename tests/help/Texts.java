/** Puts texts and bytes on the tape of a home, and has them read. */
final class Texts {
    private Texts() { }

    /** Puts signs on the tape, twenty at a time, with blanks behind the last ones. */
    static void put(GustHome x, String t) {
        for (int k = 0; k < t.length(); k += 20) {
            int[] v = new int[5];
            for (int i = 0; i < 20; i++) {
                char c = k + i < t.length() ? t.charAt(k + i) : ' ';
                v[i / 4] = v[i / 4] << 8 | c;
            }
            x.feed(v[0], v[1], v[2], v[3], v[4]);
        }
    }

    static void put(GustHome x, int... bytes) {
        StringBuilder t = new StringBuilder();
        for (int b : bytes) t.append((char) b);
        put(x, t.toString());
    }

    static int law(GustHome x, String t) { put(x, t); return x.law(t.length()); }
    static int rules(GustHome x, String t) { put(x, t); return x.rules(t.length()); }
    static int table(GustHome x, int w, String t) { put(x, t); return x.timetable(w, t.length()); }

    static String times(int n, String t, String between) {
        StringBuilder s = new StringBuilder();
        for (int k = 0; k < n; k++) s.append(k > 0 ? between : "").append(t);
        return s.toString();
    }

    /** All that can be seen of a home without changing it, to compare it before and after a call. */
    static String seen(GustHome x) {
        StringBuilder s = new StringBuilder();
        for (int k = 0; k < 30; k++) s.append(x.count(k)).append(' ');
        for (int g = 0; g < 12; g++) for (int k = 0; k < 6; k++) s.append(x.gustIs(g, k)).append(' ');
        for (int w = 0; w < 6; w++) for (int k = 0; k < 7; k++) s.append(x.wardIs(w, k)).append(' ');
        for (int n = 0; n < 5; n++) for (int k = 0; k < 2; k++) s.append(x.nurseIs(n, k)).append(' ');
        for (int g = 0; g < 12; g++) {
            s.append(x.leaving(1 << g, g)).append(' ').append(x.from(g, 0, 0)).append(' ').append(x.from(g, 1023, 0)).append(' ');
            s.append(x.placed(1 << g, g)).append(' ').append(x.tried(9, 10 + g)).append(' ');
        }
        for (int k = 0; k < 7; k++) s.append(x.tried(9, k)).append(' ');
        return s.toString();
    }
}
