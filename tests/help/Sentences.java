import java.io.IOException;
import java.nio.charset.StandardCharsets;
import java.nio.file.Files;
import java.nio.file.Path;
import java.util.function.IntPredicate;
import java.util.function.IntUnaryOperator;
import java.util.regex.Matcher;
import java.util.regex.Pattern;

/**
 * Tests that name the promise and the words of the document that they come from. The words must stand in
 * the document, once, and no word of the part that is gone through may be left without a test.
 */
final class Sentences {
    private static final Path DOC = Path.of("../shared/DOC.md");
    /** What is no sentence: heads, the lines of the face, and marks. */
    private static final Pattern MARKS = Pattern.compile("## Terms|## Promise \\d+: \\w+( new object)?|`\\w+ ?\\w*\\([^`]*`:|```text|==== \\d\\.");

    private final String part;
    private final boolean[] named;
    private final boolean[] promises = new boolean[38];
    private final boolean byPromise;
    private int promise;
    private String words = "";
    private int askedHere = 1;
    private int sentences;
    private int asked;
    private int wrong;

    private Sentences(String part, boolean byPromise) {
        this.part = part;
        this.byPromise = byPromise;
        named = new boolean[part.length()];
        Matcher m = MARKS.matcher(part);
        while (m.find()) java.util.Arrays.fill(named, m.start(), m.end(), true);
    }

    static Sentences ofTerms() { return new Sentences(between("## Terms", "## Promise 1:"), false); }
    static Sentences ofPromises() { return new Sentences(between("## Promise 1:", "## Not promised"), true); }

    /** Without the document the answers can be asked all the same, but not whether the quotes are right. */
    private static String between(String from, String to) {
        try {
            String doc = Files.readString(DOC, StandardCharsets.UTF_8).replaceAll("\\s+", " ");
            return doc.substring(doc.indexOf(from), doc.indexOf(to));
        } catch (IOException e) {
            System.out.println("no document at " + DOC.toAbsolutePath() + ": the quotes are not looked at");
            return "";
        }
    }

    /** The tests that follow come from these words. */
    void says(int number, String text) {
        if (askedHere == 0) fault("has no test");
        promise = number;
        words = text;
        askedHere = 0;
        sentences++;
        promises[number] = true;
        if (!part.isEmpty()) quote(number, text);
    }

    private void quote(int number, String text) {
        int low = byPromise ? part.indexOf("## Promise " + number + ":") : 0;
        int next = byPromise ? part.indexOf("## ", low + 3) : -1;
        int high = next < 0 ? part.length() : next;
        int at = part.indexOf(text, low);
        int again = at < 0 ? -1 : part.indexOf(text, at + 1);
        if (at < 0 || at + text.length() > high) {
            fault("does not stand in the document there");
        } else if (again >= 0 && again + text.length() <= high) {
            fault("stands there more than once");
        } else {
            java.util.Arrays.fill(named, at, at + text.length(), true);
        }
    }

    void due(String what, int got, int want) {
        asked++;
        askedHere++;
        if (got != want) fault(what + " answered " + got + ", due is " + want);
    }
    void due(String what, boolean got, boolean want) { due(what, got ? 1 : 0, want ? 1 : 0); }
    void same(String what, String got, String want) { due(what + " as before", got.equals(want), true); }

    /** The first and the last number are taken, those beside them and the farthest are not. */
    void taken(String what, int least, int most, IntPredicate call) {
        due(what + " " + least, call.test(least), true);
        due(what + " " + most, call.test(most), true);
        for (int v : beside(least, most)) due(what + " " + v, call.test(v), false);
    }
    /** Those beside the first and the last number, and the farthest, answer NONE; the two do not. */
    void none(String what, int least, int most, IntUnaryOperator call) { answers(what, least, most, -1, call); }
    void answers(String what, int least, int most, int refused, IntUnaryOperator call) {
        due(what + " " + least + " is taken", call.applyAsInt(least) != refused, true);
        due(what + " " + most + " is taken", call.applyAsInt(most) != refused, true);
        for (int v : beside(least, most)) due(what + " " + v, call.applyAsInt(v), refused);
    }
    private static int[] beside(int least, int most) {
        return new int[] {least - 1, most + 1, Integer.MIN_VALUE, Integer.MAX_VALUE};
    }

    private void fault(String what) {
        wrong++;
        System.out.println("promise " + promise + ", \"" + words + "\": " + what);
    }

    /** Says what came out, and ends with 1 if something was wrong or left out. */
    void end() {
        if (askedHere == 0) fault("has no test");
        for (int k = 1; byPromise && k < promises.length; k++) {
            if (!promises[k]) { wrong++; System.out.println("promise " + k + " has no sentence"); }
        }
        Matcher m = Pattern.compile("[A-Za-z0-9-]+").matcher(part);
        StringBuilder left = new StringBuilder();
        while (m.find()) {
            boolean all = true;
            for (int k = m.start(); k < m.end(); k++) all &= named[k];
            if (!all) left.append(' ').append(m.group());
        }
        if (left.length() > 0) { wrong++; System.out.println("words of the document without a test:" + left); }
        System.out.println(sentences + " sentences, " + asked + " answers asked, " + wrong + " wrong");
        if (wrong != 0) System.exit(1);
    }
}
