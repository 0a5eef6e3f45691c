import java.lang.reflect.InvocationTargetException;
import java.lang.reflect.Method;
import java.lang.reflect.Modifier;
import java.util.Arrays;
import java.util.Comparator;
import java.util.List;
import java.util.function.Consumer;

/**
 * What the tests of the promises share. Each static method of a test that takes nothing is the
 * test of one sentence of the document; all of them run, on objects of their own.
 */
abstract class Sentences {
    static final int NONE = -1, BAD = -2, STATE = -3, FULL = -4, SILENT = -5, NO_SUCH = -10001;
    static final int NOTHING = -11, CAST = -12, PLACE = -13, SIZE = -14;
    static final long NO = Long.MIN_VALUE;
    static final int POT = 0, DAMSON = 1, PLUM = 2, BERRY = 3, QUINCE = 4, WASP = 5, TOLD = 6;
    static final int BYTES = 0, SHORTS = 1, INTS = 2, LONGS = 3, BOOLEANS = 4;
    static final int LOW = Integer.MIN_VALUE, HIGH = Integer.MAX_VALUE;

    private static int looked = 0;
    private static int wrong = 0;
    private static String sentence = "";

    static void run(Class<?> test) {
        Method[] all = test.getDeclaredMethods();
        Arrays.sort(all, Comparator.comparing(Method::getName));
        int sentences = 0;
        for (Method m : all) {
            if (isSentence(m)) {
                sentences++;
                runOne(m);
            }
        }
        System.out.println(test.getName() + ": " + sentences + " sentences, " + looked + " answers, "
            + wrong + " not as due");
        if (wrong != 0 || sentences == 0) {
            System.exit(1);
        }
    }

    private static boolean isSentence(Method m) {
        int mods = m.getModifiers();
        return Modifier.isStatic(mods) && !Modifier.isPrivate(mods) && m.getParameterCount() == 0;
    }

    private static void runOne(Method m) {
        sentence = m.getName();
        int before = looked;
        try {
            m.invoke(null);
        } catch (InvocationTargetException e) {
            fail("behind " + Jam.last() + " came " + e.getCause());
        } catch (IllegalAccessException e) {
            fail("can't be run");
        }
        if (looked == before) {
            fail("looks at nothing");
        }
    }

    private static void fail(String why) {
        wrong++;
        System.out.println(sentence + ": " + why);
    }

    /** The answer of the latest call. */
    static void due(long got, long want) {
        looked++;
        if (got != want) {
            fail(Jam.last() + " answered " + got + ", due is " + want);
        }
    }

    /** Numbers that are not from least to most. */
    static int[] outside(int least, int most) {
        return new int[] {least - 1, least - 256, most + 1, most + 256, most + 65536, LOW, HIGH};
    }

    /** Such numbers, but for -1, where that has a meaning of its own. */
    static int[] outsideBut1Below(int most) {
        return new int[] {-2, -256, most + 1, most + 256, most + 65536, LOW, HIGH};
    }

    /** Behind these calls all is as it would be without them. */
    static void changesNothing(Consumer<Jam> calls) {
        changesNothing(ready -> { }, calls);
    }

    static void changesNothing(Consumer<Jam> ready, Consumer<Jam> calls) {
        Jam plain = Jam.busy();
        Jam called = Jam.busy();
        ready.accept(plain);
        ready.accept(called);
        calls.accept(called);
        List<String> want = plain.all();
        List<String> got = called.all();
        looked++;
        for (int i = 0; i < Math.min(want.size(), got.size()); i++) {
            if (!want.get(i).equals(got.get(i))) {
                fail("it is otherwise then: " + got.get(i) + ", not " + want.get(i));
                return;
            }
        }
        if (want.size() != got.size()) {
            fail("it is otherwise then");
        }
    }
}
