import java.lang.reflect.Constructor;
import java.lang.reflect.Field;
import java.lang.reflect.Method;
import java.lang.reflect.Modifier;
import java.nio.file.Files;
import java.nio.file.Path;
import java.util.ArrayList;
import java.util.Arrays;
import java.util.List;
import java.util.TreeSet;
import java.util.regex.Matcher;
import java.util.regex.Pattern;

/** The face of the class is the document's and no more; rules of LANGUAGE.md that can be looked up. */
public final class FaceTest {
    private static final String[] FACE = {
        "int pot(int, int, int)", "int of(int, int)", "int world(int)", "int sugar(int, int)",
        "int spoon(int, int)", "int row(int, int, int)", "int feed(int)", "int cellar()", "int told(int)",
        "int pass(int)", "int on(int, int)", "int cases(int, int)", "int hear(int, int, int)",
        "int can(int, int)", "long odds(int, int)", "long mean(int, int)", "int plan(int, int)",
        "int ends(int)", "int book(int, int)", "int looked()", "int judge(int, int)", "int image()",
        "int undo()", "int act(int, int, int)", "int trace(int)", "int taken(int, int)", "int count(int)",
        "int tape(int, int, int)", "int item(int, int, long)", "long read(int, int)",
        "int shift(int, int, int, int, int)"};
    private static final int MOST_LINES = 60, MOST_PARAMETERS = 7, MOST_CLASSES = 12, MOST_FIELDS = 20;
    private static int wrong = 0;

    private static void check(boolean holds, String otherwise) {
        if (!holds) {
            wrong++;
            System.out.println(otherwise);
        }
    }

    public static void main(String[] args) throws Exception {
        face();
        constants();
        classes();
        source();
        promises();
        System.out.println("FaceTest: " + wrong + " wrong");
        if (wrong != 0) {
            System.exit(1);
        }
    }

    private static String told(Method m) {
        List<String> types = new ArrayList<>();
        for (Class<?> type : m.getParameterTypes()) {
            types.add(type.getName());
        }
        return m.getReturnType().getName() + " " + m.getName() + "(" + String.join(", ", types) + ")";
    }

    private static void face() {
        TreeSet<String> seen = new TreeSet<>();
        TreeSet<String> names = new TreeSet<>();
        for (Method m : JamOath.class.getDeclaredMethods()) {
            if (!Modifier.isPrivate(m.getModifiers())) {
                seen.add(told(m));
                names.add(m.getName());
                check(Modifier.isPublic(m.getModifiers()) && !Modifier.isStatic(m.getModifiers()), told(m));
            }
        }
        check(seen.equals(new TreeSet<>(Arrays.asList(FACE))), "the methods are " + seen);
        for (Class<?> c : allClasses()) {
            for (Method m : c.getDeclaredMethods()) {
                boolean own = c == JamOath.class && !Modifier.isPrivate(m.getModifiers());
                check(own || !names.contains(m.getName()), c + " has another " + m.getName());
            }
        }
        int mods = JamOath.class.getModifiers();
        check(Modifier.isPublic(mods) && Modifier.isFinal(mods), "the class is not public and final");
        Constructor<?>[] made = JamOath.class.getDeclaredConstructors();
        check(made.length == 1 && Modifier.isPublic(made[0].getModifiers())
            && made[0].getParameterCount() == 0, "the constructor");
    }

    private static void constants() throws Exception {
        int seen = 0;
        for (Field f : JamOath.class.getDeclaredFields()) {
            if (!Modifier.isPrivate(f.getModifiers())) {
                seen++;
                int mods = f.getModifiers();
                check(Modifier.isPublic(mods) && Modifier.isStatic(mods) && Modifier.isFinal(mods), f.toString());
            }
        }
        check(seen == 5, "constants: " + seen);
        check(JamOath.NONE == -1 && JamOath.BAD == -2 && JamOath.STATE == -3 && JamOath.FULL == -4, "constants");
        check(JamOath.NO == Long.MIN_VALUE && JamOath.class.getField("NO").getType() == long.class, "NO");
    }

    private static List<Class<?>> allClasses() {
        List<Class<?>> all = new ArrayList<>();
        all.add(JamOath.class);
        all.addAll(Arrays.asList(JamOath.class.getDeclaredClasses()));
        return all;
    }

    private static void classes() {
        check(allClasses().size() <= MOST_CLASSES, "classes: " + allClasses().size());
        for (Class<?> c : allClasses()) {
            int fields = 0;
            for (Field f : c.getDeclaredFields()) {
                boolean fixed = Modifier.isStatic(f.getModifiers());
                fields += fixed ? 0 : 1;
                check(!fixed || Modifier.isFinal(f.getModifiers()), "static, not final: " + f);
            }
            check(fields <= MOST_FIELDS, c + " has fields: " + fields);
            for (Method m : c.getDeclaredMethods()) {
                check(m.getParameterCount() <= MOST_PARAMETERS, "parameters: " + m);
            }
            boolean inside = c != JamOath.class;
            check(!inside || isInsideOnly(c), c + " is not static, or seen from outside");
        }
    }

    private static boolean isInsideOnly(Class<?> c) {
        int mods = c.getModifiers();
        return Modifier.isStatic(mods) && !Modifier.isPublic(mods) && !Modifier.isProtected(mods);
    }

    private static void source() throws Exception {
        String raw = Files.readString(Path.of("src/main/java/JamOath.java"));
        check(raw.chars().allMatch(c -> c == '\n' || (c >= 32 && c < 127)), "a sign that is not ASCII");
        String bare = raw.replaceAll("(?s)/\\*.*?\\*/", "").replaceAll("//[^\n]*", "");
        String[] barred = {"throw", "try", "catch", "synchronized", "assert", "package", "Exact\\s*\\(", "->", "::",
            "\\[\\]\\s*\\[\\]\\s*\\[\\]", "hashCode", "toString", "System\\.(?!arraycopy)", "Object\\b", "while"};
        for (String word : barred) {
            Matcher m = Pattern.compile("(?<![A-Za-z])" + word).matcher(bare);
            check(!m.find(), "outside the rules: " + word);
        }
        TreeSet<String> listed = new TreeSet<>(Arrays.asList("Arrays.fill", "System.arraycopy", "Math.min",
            "Math.max", "Math.abs", "Integer.bitCount", "Long.MIN_VALUE"));
        Matcher library = Pattern.compile("\\b(?:Arrays|System|Math|Integer|Long|String|java)\\.\\w+").matcher(
            bare.replaceAll("import [^;]*;", ""));
        while (library.find()) {
            check(listed.contains(library.group()), "not of the library's list: " + library.group());
        }
        Matcher imports = Pattern.compile("import ([^;]*);").matcher(bare);
        while (imports.find()) {
            check(imports.group(1).equals("java.util.Arrays"), "import " + imports.group(1));
        }
        lengths(raw.split("\n"));
    }

    /** Each promise of the document has a test named after it. */
    private static void promises() throws Exception {
        Matcher m = Pattern.compile("(?m)^## Promise (\\d+): (.*)$").matcher(Files.readString(Path.of("../shared/DOC.md")));
        int seen = 0;
        while (m.find()) {
            seen++;
            String name = m.group(2).equals("A new object") ? "NewObject"
                : m.group(2).substring(0, 1).toUpperCase() + m.group(2).substring(1);
            String file = String.format("Promise%02d%sTest.java", Integer.parseInt(m.group(1)), name);
            check(Files.exists(Path.of("src/test/java", file)), "there is no " + file);
        }
        check(seen == FACE.length + 1, "promises: " + seen);
    }

    /** By the layout of the file: a method begins and ends at the same indent. */
    private static void lengths(String[] lines) {
        for (int i = 0; i < lines.length; i++) {
            Matcher m = Pattern.compile("( {4}| {8})[a-z][^=;]*\\) \\{").matcher(lines[i]);
            if (m.matches() && !lines[i].matches(" *(if|for|switch) .*")) {
                int end = i;
                while (!lines[end].equals(m.group(1) + "}")) {
                    end++;
                }
                check(end - i < MOST_LINES, "long: " + lines[i]);
            }
        }
    }
}
