import java.lang.management.ManagementFactory;

/** What calls make is counted: after the constructor they make as good as nothing. */
public final class RoomTest {
    private static final int OBJECTS = 60, ROUNDS = 8;
    /** Some slack for what the host itself makes when code runs for the first time. */
    private static final long MOST_BYTES = 2_000_000;

    public static void main(String[] args) {
        com.sun.management.ThreadMXBean host =
            (com.sun.management.ThreadMXBean) ManagementFactory.getThreadMXBean();
        long self = Thread.currentThread().getId();
        JamOath[] all = new JamOath[OBJECTS];
        long before = host.getThreadAllocatedBytes(self);
        for (int i = 0; i < OBJECTS; i++) {
            all[i] = new JamOath();
        }
        long made = host.getThreadAllocatedBytes(self) - before;
        long sum = 0;
        before = host.getThreadAllocatedBytes(self);
        for (JamOath jam : all) {
            sum += calls(jam);
        }
        long called = host.getThreadAllocatedBytes(self) - before;
        System.out.println("RoomTest: " + made / OBJECTS + " bytes an object, " + called / OBJECTS
            + " bytes for its calls (" + sum + ")");
        if (made > MOST_BYTES || called > MOST_BYTES) {
            System.exit(1);
        }
    }

    private static long calls(JamOath jam) {
        long sum = 0;
        for (int p = 0; p < 6; p++) {
            sum += jam.pot(p + 1, p, 9 - p);
            sum += jam.hear(p, p, 1);
            sum += jam.plan(1, 10 * p + p);
            sum += jam.book(p, p);
        }
        String text = "sweet 9 !(p=1|f>2)&v<3;haze 12 s>4&a=3;keep 3";
        for (int i = 0; i < text.length(); i++) {
            sum += jam.feed(text.charAt(i));
        }
        sum += jam.cellar();
        for (int round = 0; round < ROUNDS; round++) {
            sum += jam.image() + jam.undo() + jam.pass(60) + jam.ends(0) + jam.looked() + jam.cellar();
            sum += jam.told(3) + jam.told(7) + jam.told(12) + jam.cases(255, 0) + jam.cases(255, 1);
            sum += jam.odds(1, 0) % 3 + jam.mean(60, 1) % 3 + jam.on(60, 0) + jam.on(60, 21);
            for (int p = 0; p < 6; p++) {
                sum += jam.of(p, 5) + jam.of(p, 36) + jam.can(p, 0) + jam.spoon(p, 3) + jam.act(p, 2, round);
            }
            sum += jam.tape(1, 3, 60) + jam.item(1, 3, 5) + jam.shift(1, 0, 1, 5, 40) + jam.judge(1, 0);
        }
        return sum;
    }
}
