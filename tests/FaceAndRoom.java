import java.lang.management.ManagementFactory;
import java.lang.reflect.Constructor;
import java.lang.reflect.Field;
import java.lang.reflect.Method;
import java.lang.reflect.Modifier;
import java.nio.charset.StandardCharsets;
import java.nio.file.Files;
import java.nio.file.Path;
import java.util.ArrayList;
import java.util.Arrays;
import java.util.List;
import java.util.TreeSet;
import java.util.regex.Matcher;
import java.util.regex.Pattern;

/** The public face, what a test can see of LANGUAGE.md, no throw for any argument, and the room that calls take. */
public final class FaceAndRoom {
    private static final String[] FACE = {
        "boolean gust(int,int,int,int,int)", "boolean name(int,int)", "boolean moves(int,int)", "boolean habit(int,int,boolean)",
        "boolean ward(int,int,int,int)", "boolean nurse(int,int)", "boolean needs(int,int)", "int feed(int,int,int,int,int)", "int law(int)",
        "int rules(int)", "int timetable(int,int)", "int months(int)", "int tried(int,int)", "int gustIs(int,int)", "int wardIs(int,int)",
        "int nurseIs(int,int)", "int quarrel(int,int)", "int housed(int,int,int)", "boolean wind(int,int,int)", "int leaving(int,int)",
        "int letGo(int)", "boolean home(int,int)", "int from(int,int,int)", "int taught(int,int,int)", "boolean house(int,int,int)",
        "int placed(int,int)", "int fair(int)", "int escaped(int,int,int,int)", "int nursed(int,int,int)", "int round(int,int)",
        "int added(int,int)", "boolean seed(int)", "int keep()", "boolean undo()", "int check(int)", "int count(int)"};
    private static int wrong = 0;

    private static void must(boolean holds, String what) {
        if (!holds) {
            wrong++;
            System.out.println("not so: " + what);
        }
    }

    public static void main(String[] args) throws Exception {
        face();
        faceOfDocument();
        language();
        oddArguments();
        room();
        System.out.println(wrong == 0 ? "the face, the language and the room are as due" : wrong + " are not as due");
        if (wrong != 0) System.exit(1);
    }

    private static void face() throws Exception {
        Class<?> c = GustHome.class;
        must(c.getModifiers() == (Modifier.PUBLIC | Modifier.FINAL), "public and final");
        TreeSet<String> seen = new TreeSet<>(), names = new TreeSet<>();
        for (Method m : c.getDeclaredMethods()) {
            if (Modifier.isPrivate(m.getModifiers())) continue;
            must(m.getModifiers() == Modifier.PUBLIC, "only public: " + m);
            StringBuilder s = new StringBuilder(m.getReturnType() + " " + m.getName() + "(");
            for (Class<?> p : m.getParameterTypes()) s.append(s.charAt(s.length() - 1) == '(' ? "" : ",").append(p);
            seen.add(s + ")");
            names.add(m.getName());
        }
        must(seen.equals(new TreeSet<>(Arrays.asList(FACE))), "the methods of the document: " + seen);
        for (Field f : c.getDeclaredFields()) {
            boolean none = f.getName().equals("NONE");
            must(none ? f.getModifiers() == (Modifier.PUBLIC | Modifier.STATIC | Modifier.FINAL) : Modifier.isPrivate(f.getModifiers()), "field " + f);
        }
        must(GustHome.NONE == -1, "NONE");
        Constructor<?>[] made = c.getDeclaredConstructors();
        must(made.length == 1 && made[0].getParameterCount() == 0 && Modifier.isPublic(made[0].getModifiers()), "one constructor");
        List<Class<?>> all = new ArrayList<>(Arrays.asList(c.getDeclaredClasses()));
        must(all.size() <= 12, "at most twelve classes inside");
        all.add(c);
        for (Class<?> k : all) {
            must(k == c || Modifier.isStatic(k.getModifiers()) && !Modifier.isPublic(k.getModifiers()) && !Modifier.isProtected(k.getModifiers()), "static inside: " + k);
            int own = 0;
            for (Field f : k.getDeclaredFields()) {
                own += Modifier.isStatic(f.getModifiers()) ? 0 : 1;
                must(!Modifier.isStatic(f.getModifiers()) || Modifier.isFinal(f.getModifiers()), "static fields are final: " + f);
            }
            must(own <= 20, "twenty fields: " + k);
            for (Method m : k.getDeclaredMethods()) {
                must(k == c && !Modifier.isPrivate(m.getModifiers()) || !names.contains(m.getName()), "a name of the face: " + m);
                must(m.getParameterCount() <= 7, "seven parameters: " + m);
                must(!m.isSynthetic(), "nothing but plain methods: " + m);
            }
        }
    }

    /** "The public face" of the document has these methods, one constant, one constructor, and nothing else. */
    private static void faceOfDocument() throws Exception {
        Path doc = Path.of("../shared/DOC.md");
        if (!Files.exists(doc)) {
            System.out.println("no document at " + doc.toAbsolutePath() + ": its face is not looked at");
            return;
        }
        TreeSet<String> told = new TreeSet<>();
        Matcher lines = Pattern.compile("(?m)^    public ([^;]+);$").matcher(Files.readString(doc, StandardCharsets.UTF_8));
        while (lines.find()) told.add(lines.group(1).replaceAll("(int|boolean) \\w+(?=[,)])", "$1").replace(", ", ","));
        TreeSet<String> due = new TreeSet<>(Arrays.asList(FACE));
        due.add("static final int NONE = -1");
        due.add("GustHome()");
        must(told.equals(due), "the face of the document: " + told);
    }

    private static void language() throws Exception {
        String text = Files.readString(Path.of("src/main/java/GustHome.java"), StandardCharsets.UTF_8);
        String code = text.replaceAll("(?s)/\\*.*?\\*/", " ").replaceAll("//[^\n]*", " ");
        for (int k = 0; k < text.length(); k++) must(text.charAt(k) < 128, "signs below 128, at " + k);
        String[] never = {"throw", "throws", "try", "catch", "finally", "synchronized", "assert", "instanceof", "record", "enum", "Object", "hashCode",
            "System\\s*\\.\\s*(?!arraycopy)\\w+", "Math\\s*\\.\\s*\\w*Exact", "double", "float", "package", "native", "volatile", "transient", "goto", "toString",
            "while", "ArrayList", "StringBuilder", "var"};
        for (String n : never) must(!Pattern.compile("\\b" + n + "\\b").matcher(code).find(), "never: " + n);
        must(!code.contains("->") && !code.contains("::"), "no lambda, no method reference");
        Matcher imports = Pattern.compile("import\\s+([^;]+);").matcher(code);
        while (imports.find()) must(imports.group(1).equals("java.util.Arrays"), "import " + imports.group(1));
        Matcher made = Pattern.compile("\\bnew\\s+\\w+\\s*[\\[(]").matcher(code);
        int constructor = 0;
        while (made.find()) constructor++;
        must(constructor > 0, "something is made");
        int start = -1, line = 0;
        for (String l : text.split("\n")) {
            line++;
            if (l.matches("(    |        )(public|private|static|int|boolean|void|Code|Ward)\\b[^=;]*\\{\\s*") && !l.contains(" class ")) start = line;
            if (start > 0 && l.matches("(    |        )\\}\\s*")) {
                must(line - start <= 60, "sixty lines of a method, line " + start);
                start = -1;
            }
            must(l.length() <= 130, "a long line, " + line);
        }
    }

    /** No argument makes any call throw, in a full object as in a new one. */
    private static void oddArguments() throws Exception {
        int[] odd = {Integer.MIN_VALUE, Integer.MIN_VALUE + 1, -1000000, -65536, -21, -11, -10, -2, -1, 0, 1, 2, 6, 10, 11, 12, 13, 20, 21, 31, 32, 63, 64, 255, 256,
            1023, 1024, 4095, 4096, 65535, 65536, 1 << 30, Integer.MAX_VALUE - 1, Integer.MAX_VALUE};
        GustHome[] both = {new GustHome(), full()};
        long state = 7;
        for (GustHome x : both) {
            for (Method m : GustHome.class.getDeclaredMethods()) {
                if (!Modifier.isPublic(m.getModifiers())) continue;
                Class<?>[] types = m.getParameterTypes();
                for (int k = 0; k < 3000; k++) {
                    Object[] with = new Object[types.length];
                    for (int i = 0; i < with.length; i++) {
                        state = state * 6364136223846793005L + 1442695040888963407L;
                        int z = (int) (state >>> 33);
                        with[i] = types[i] == boolean.class ? (Object) (z % 2 == 0) : (Object) odd[z % odd.length];
                    }
                    try {
                        m.invoke(x, with);
                    } catch (java.lang.reflect.InvocationTargetException e) {
                        must(false, m.getName() + Arrays.toString(with) + " threw " + e.getCause());
                    }
                }
            }
        }
    }

    private static GustHome full() {
        GustHome x = new GustHome();
        for (int g = 0; g < 12; g++) {
            x.gust(g, 3 * g, g % 10, 0, g % 10);
            x.name(g, g % 8);
        }
        for (int k = 0; k < 5; k++) {
            x.nurse(k, k);
            x.house(k, k, 1 << k);
        }
        for (int k = 0; k < 4; k++) x.wind(k, 2 * k, 40 * k);
        for (int k = 0; k < 10; k++) x.home(k, 37 * k % 1024);
        for (int w = 0; w < 6; w++) {
            x.ward(w, 9, 5, w % 5);
            Texts.put(x, "2(A2(B.C)D)");
            x.timetable(w, 11);
        }
        String law = "f1(1=1);g1(1=1);b1(1=1);i1(1=1);e(1=1);x(1+[2-[3*[4+[5-s]]]]>200|s+o>99999|!(!(s=o&t=9))|q=p&t>3|s*s+o*o+t*t<0)";
        Texts.put(x, law);
        must(x.law(law.length()) == 6, "the law of the full object");
        Texts.put(x, "(n<9);(v<10)");
        x.rules(12);
        x.keep();
        return x;
    }

    /** All calls of one run live in one room: so no call makes more than a few small things. */
    private static void room() {
        com.sun.management.ThreadMXBean bean = (com.sun.management.ThreadMXBean) ManagementFactory.getThreadMXBean();
        long id = Thread.currentThread().getId();
        GustHome[] made = new GustHome[64];
        long before = bean.getThreadAllocatedBytes(id);
        for (int k = 0; k < made.length; k++) made[k] = new GustHome();
        long each = (bean.getThreadAllocatedBytes(id) - before) / made.length;
        must(each < 40000, "an object takes " + each + " bytes");
        GustHome x = full();
        dearest(x);
        before = bean.getThreadAllocatedBytes(id);
        for (int k = 0; k < 50; k++) dearest(x);
        long taken = bean.getThreadAllocatedBytes(id) - before;
        must(taken < 20000, "500 dear calls take " + taken + " bytes");
    }

    private static int dearest(GustHome x) {
        x.feed(0x66312831, 0x3d312920, 0, 0, 0);
        return x.months(60) + x.tried(60, 4) + x.housed(63, 7, 20) + x.leaving(63, 20) + x.round(255, 20) + x.nursed(31, 31, 20) + x.placed(63, 1)
            + x.keep() + x.law(5) + x.taught(0, 1023, 20) + (x.undo() ? 1 : 0);
    }
}
