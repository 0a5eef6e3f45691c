import java.lang.reflect.Method;
import java.lang.reflect.Modifier;
import java.nio.file.Files;
import java.nio.file.Path;
import java.util.regex.Matcher;
import java.util.regex.Pattern;

/** The example of README.md answers as it says there, and the page names every call of the face. */
public final class ReadmeTest {
    private static final Pattern CALL = Pattern.compile("jam\\.(\\w+)\\(([^)]*)\\);\\s+// (-?\\d+): .*");
    private static final Pattern FED = Pattern.compile(
        "for \\(char sign : \"([^\"]*)\"\\.toCharArray\\(\\)\\) \\{ jam\\.feed\\(sign\\); }");
    private static final int MOST_CALLS = 512;
    private static JamOath jam = null;
    private static int calls = 0;
    private static int wrong = 0;

    private static void fail(String why) {
        wrong++;
        System.out.println(why);
    }

    public static void main(String[] args) throws Exception {
        String page = Files.readString(Path.of("README.md"));
        Matcher example = Pattern.compile("(?s)```java\n(.*?)```").matcher(page);
        while (example.find()) {
            for (String line : example.group(1).split("\n")) {
                runLine(line.trim());
            }
        }
        if (calls == 0) {
            fail("there is no example");
        }
        for (Method m : JamOath.class.getDeclaredMethods()) {
            if (Modifier.isPublic(m.getModifiers()) && !page.contains("`" + m.getName() + "`")) {
                fail("the page does not name " + m.getName());
            }
        }
        System.out.println("ReadmeTest: " + calls + " calls, " + wrong + " wrong");
        if (wrong != 0) {
            System.exit(1);
        }
    }

    private static void runLine(String line) throws Exception {
        Matcher call = CALL.matcher(line);
        Matcher fed = FED.matcher(line);
        if (line.equals("JamOath jam = new JamOath();")) {
            jam = new JamOath();
            calls = 0;
        } else if (jam != null && call.matches()) {
            long got = answer(call.group(1), call.group(2));
            if (got != Long.parseLong(call.group(3))) {
                fail(line + " answered " + got);
            }
        } else if (jam != null && fed.matches()) {
            for (char sign : fed.group(1).toCharArray()) {
                answer("feed", String.valueOf((int) sign));
            }
        } else if (!line.isEmpty() && !line.startsWith("//")) {
            fail("can't be run: " + line);
        }
    }

    private static long answer(String name, String arguments) throws Exception {
        calls++;
        if (calls > MOST_CALLS) {
            fail("a call too many: " + name);
        }
        String[] parts = arguments.isEmpty() ? new String[0] : arguments.split(", ");
        for (Method m : JamOath.class.getDeclaredMethods()) {
            if (Modifier.isPublic(m.getModifiers()) && m.getName().equals(name) && m.getParameterCount() == parts.length) {
                Object[] values = new Object[parts.length];
                for (int i = 0; i < parts.length; i++) {
                    boolean isLong = m.getParameterTypes()[i] == long.class;
                    values[i] = isLong ? (Object) Long.valueOf(parts[i]) : (Object) Integer.valueOf(parts[i]);
                }
                return ((Number) m.invoke(jam, values)).longValue();
            }
        }
        fail("no such call: " + name + "(" + arguments + ")");
        return 0;
    }
}
