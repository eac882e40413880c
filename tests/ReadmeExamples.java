import java.lang.reflect.Method;
import java.lang.reflect.Modifier;
import java.nio.charset.StandardCharsets;
import java.nio.file.Files;
import java.nio.file.Path;
import java.util.TreeSet;
import java.util.regex.Matcher;
import java.util.regex.Pattern;

/** The examples of README.md: each call answers what stands behind it, and each method stands in one. */
public final class ReadmeExamples {
    private static final Pattern CALL = Pattern.compile("x\\.(\\w+)\\(([^)]*)\\);\\s*// (-?\\d+|true|false)(?=:|\\s*$).*");
    private static final Pattern PUT = Pattern.compile("Texts\\.put\\(x, \"([^\"]*)\"\\);");
    private static int asked = 0;
    private static int wrong = 0;

    private static void fault(int line, String what) {
        wrong++;
        System.out.println("README.md, line " + line + ": " + what);
    }

    public static void main(String[] args) throws Exception {
        TreeSet<String> left = new TreeSet<>();
        for (Method m : GustHome.class.getDeclaredMethods()) {
            if (Modifier.isPublic(m.getModifiers())) left.add(m.getName());
        }
        GustHome x = new GustHome();
        boolean inside = false;
        int number = 0;
        for (String line : Files.readString(Path.of("README.md"), StandardCharsets.UTF_8).split("\n")) {
            number++;
            if (line.startsWith("```")) {
                inside = line.equals("```java");
            } else if (inside && line.equals("GustHome x = new GustHome();")) {
                x = new GustHome();
            } else if (inside && PUT.matcher(line).matches()) {
                Texts.put(x, PUT.matcher(line).replaceFirst("$1"));
            } else if (inside) {
                left.remove(ask(x, number, line));
            }
        }
        for (String name : left) fault(number, "no example of " + name);
        System.out.println(asked + " examples asked, " + wrong + " wrong");
        if (wrong != 0 || asked == 0) System.exit(1);
    }

    private static String ask(GustHome x, int number, String line) throws Exception {
        Matcher call = CALL.matcher(line);
        if (!call.matches()) {
            fault(number, "no example: " + line);
            return "";
        }
        for (Method m : GustHome.class.getDeclaredMethods()) {
            if (!m.getName().equals(call.group(1))) continue;
            asked++;
            Object got = m.invoke(x, arguments(call.group(2), m.getParameterTypes()));
            if (!got.toString().equals(call.group(3))) fault(number, line + " answered " + got);
        }
        return call.group(1);
    }

    private static Object[] arguments(String list, Class<?>[] types) {
        String[] words = list.isEmpty() ? new String[0] : list.split(", *");
        Object[] with = new Object[words.length];
        for (int k = 0; k < words.length; k++) {
            with[k] = types[k] == boolean.class ? (Object) Boolean.parseBoolean(words[k]) : (Object) Long.decode(words[k]).intValue();
        }
        return with;
    }
}
