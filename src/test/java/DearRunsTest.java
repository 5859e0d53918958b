import java.lang.management.ManagementFactory;

/** The dearest runs: 12 bits, all states walked, 512 calls; what they make must fit into a run's room. */
public final class DearRunsTest {
    private static final int CALLS = 512;
    // a run may make 7.3 million fields and elements; nearly all of them are ints of 4 bytes
    private static final long MOST_BYTES = 4L * 7_300_000;
    private static int calls = 0;

    public static void main(String[] args) {
        within("one object, its first state changed again and again", DearRunsTest::firstAndClasses);
        within("one object, pairs of alike states", DearRunsTest::alikePairs);
        within("many objects", DearRunsTest::manyObjects);
        within("many objects that grow", DearRunsTest::growingObjects);
        within("new objects alone", DearRunsTest::newObjects);
        longWords();
        Runs.end();
    }

    private static void within(String name, Runnable run) {
        com.sun.management.ThreadMXBean threads =
                (com.sun.management.ThreadMXBean) ManagementFactory.getThreadMXBean();
        calls = 0;
        run.run(); // once before, so that the loading of classes is not counted
        calls = 0;
        long before = threads.getCurrentThreadAllocatedBytes();
        run.run();
        long made = threads.getCurrentThreadAllocatedBytes() - before;
        System.out.println(name + ": " + made + " bytes");
        Runs.due(name + " stays within its room", made < MOST_BYTES, true);
    }

    private static boolean more() {
        calls++;
        return calls <= CALLS;
    }

    private static SmallExhaust wide(int inputs) {
        SmallExhaust x = new SmallExhaust(0);
        for (int r = 0; r < 3; r++) {
            x.register(4);
        }
        for (int i = 0; i < inputs; i++) {
            x.input(7, i % 3, -1);
            if (i < 3) {
                x.transfer(i, i, 0, i, -2);
            }
        }
        calls += 4 + inputs;
        return x;
    }

    private static void firstAndClasses() {
        SmallExhaust x = wide(4);
        boolean right = true;
        for (int s = 0; more(); s = (s + 1) % 4096) {
            x.first(s);
            right &= x.classes() == 4096 && x.count(6) == 45 && x.count(7) == 4096 && x.count(8) == 0;
            calls += 4;
        }
        Runs.due("4096 classes, the longest way 45", right, true);
    }

    private static void alikePairs() {
        SmallExhaust x = new SmallExhaust(0);
        for (int r = 0; r < 3; r++) {
            x.register(4);
        }
        for (int i = 0; i < 4; i++) {
            x.input(0, -1, -1);
            x.transfer(i, i % 3, 0, i % 3, -2 - i);
        }
        boolean right = true;
        for (int s = 0; more(); s++) {
            right &= x.alike(s, 4095 - s);
        }
        Runs.due("nothing is told", right, true);
    }

    private static void manyObjects() {
        boolean right = true;
        while (more()) {
            SmallExhaust x = wide(1);
            right &= !x.alike(0, 1) && x.classes() == 16;
            calls += 2;
        }
        Runs.due("16 classes", right, true);
    }

    private static void growingObjects() {
        boolean right = true;
        while (more()) {
            SmallExhaust x = new SmallExhaust(0);
            int[] widths = {4, 4, 3, 1};
            for (int width : widths) {
                x.register(width);
                right &= x.classes() == 1 && x.alike(0, 1);
                calls += 3;
            }
        }
        Runs.due("all are alike without inputs", right, true);
    }

    private static void newObjects() {
        int sum = 0;
        while (more()) {
            sum += new SmallExhaust(calls).count(4);
        }
        Runs.due("rooms", sum, CALLS * (CALLS + 1) / 2);
    }

    /** A counter of 4 bits whose carry, kept in a bit, goes on into another one: long words. */
    private static void longWords() {
        SmallExhaust x = new SmallExhaust(0);
        x.register(4);
        x.register(4);
        x.register(1);
        x.input(7, 1, -1);
        x.transfer(0, 0, 0, 0, -2);
        x.transfer(0, 2, 7, 0, -16);
        x.transfer(0, 1, 0, 1, 2);
        int longest = 0;
        for (int s = 0; s < 64; s++) {
            int length = lengthOfWord(x, s, s + 1);
            Runs.due("both ways " + s, lengthOfWord(x, s + 1, s), length);
            longest = Math.max(longest, length);
        }
        Runs.due("long words", longest > 200, true);
        Runs.due("classes", x.classes() >= 256 && x.classes() <= x.walked(), true);
    }

    private static int lengthOfWord(SmallExhaust x, int a, int b) {
        int length = 0;
        while (x.word(a, b, length) != SmallExhaust.NONE) {
            length++;
        }
        return length;
    }
}
