import java.util.Random;

/** Runs of calls, right and wrong ones mixed, made on the program and on the naive one. */
public final class RandomRunsTest {
    private static final String[] ASKING = {
        "step", "output", "walked", "state", "number", "way", "alike", "word", "classes", "classOf",
        "least", "count"};

    private final Random random;
    private final SmallExhaust program;
    private final Naive naive;
    private final StringBuilder told = new StringBuilder();
    private int registers = 0;
    private int inputs = 0;

    private RandomRunsTest(long seed, int room) {
        random = new Random(seed);
        program = new SmallExhaust(room);
        naive = new Naive(room);
        told.append("new(").append(room).append(")");
    }

    public static void main(String[] args) {
        for (int seed = 1; seed <= 1500; seed++) {
            run(seed, 6, 120);
        }
        for (int seed = 2001; seed <= 2060; seed++) {
            run(seed, 9, 200);
        }
        for (int seed = 3001; seed <= 3010; seed++) {
            run(seed, 12, 60);
        }
        Runs.end();
    }

    private static void run(int seed, int bits, int calls) {
        int[] rooms = {0, 0, 1, 2, 5, 17, 64, 300, -4000, 4097, Integer.MIN_VALUE, Integer.MAX_VALUE};
        new RandomRunsTest(seed, rooms[seed % rooms.length]).run(bits, calls);
    }

    private void run(int bits, int calls) {
        while (naive.bits() < bits && random.nextInt(12) != 0) {
            int width = between(1, 4);
            if (naive.bits() + width <= bits) {
                call("register", width);
            }
            for (int n = random.nextInt(6); n > 3; n--) {
                ask();
                call("first", state());
            }
            if (registers == 4) {
                break;
            }
        }
        for (int n = 0; n < calls; n++) {
            int kind = random.nextInt(24);
            if (kind == 0 || n == 1) {
                call("input", op(), operand(), operand());
            } else if (kind <= 2 || n > 1 && n < 8) {
                call("transfer", between(-1, inputs), between(registers == 0 ? -1 : 0, registers), op(),
                        operand(), operand());
            } else if (kind == 3) {
                call("first", state());
            } else if (kind == 4 && (n > 5 || random.nextInt(4) == 0) && inputs > 0) {
                call("register", between(-1, 6));
            } else {
                ask();
            }
        }
    }

    private void ask() {
        String name = ASKING[random.nextInt(ASKING.length)];
        switch (name) {
            case "step", "output" -> call(name, state(), between(-1, inputs));
            case "walked", "classes" -> call(name);
            case "state", "classOf" -> call(name, walked());
            case "number" -> call(name, state());
            case "way" -> allLetters(name, walked());
            case "alike" -> call(name, state(), state());
            case "word" -> allLetters(name, state(), state());
            case "least" -> call(name, walked(), between(-1, inputs), between(-1, 2));
            default -> call(name, between(-1, 10));
        }
    }

    private void allLetters(String name, Object... where) {
        Object[] arguments = java.util.Arrays.copyOf(where, where.length + 1);
        for (int i = -1; i < 8; i++) {
            arguments[where.length] = i;
            call(name, arguments);
        }
        arguments[where.length] = Integer.MAX_VALUE;
        call(name, arguments);
    }

    private void call(String name, Object... arguments) {
        told.append(' ').append(name).append(java.util.Arrays.toString(arguments));
        String want = Runs.answer(naive, name, arguments);
        String got = Runs.answer(program, name, arguments);
        Runs.due(got.equals(want) ? name : told.toString(), got, want);
        registers = naive.count(0);
        inputs = naive.count(2);
    }

    private int between(int low, int high) {
        return low + random.nextInt(high - low + 1);
    }

    private int op() {
        return random.nextInt(30) == 0 ? (random.nextBoolean() ? -1 : 10) : between(0, 9);
    }

    private int operand() {
        int kind = random.nextInt(20);
        if (kind == 0) {
            int[] edges = {-17, -16, -15, -1, registers, Integer.MIN_VALUE, Integer.MAX_VALUE};
            return edges[random.nextInt(edges.length)];
        }
        return kind < 7 || registers == 0 ? between(-16, -1) : between(0, registers - 1);
    }

    private int state() {
        int kind = random.nextInt(40);
        if (kind == 0) {
            int[] edges = {-1, naive.states(), Integer.MIN_VALUE, Integer.MAX_VALUE, 4096, 4095};
            return edges[random.nextInt(edges.length)];
        }
        return kind < 20 ? random.nextInt(naive.states()) : random.nextInt(Math.min(8, naive.states()));
    }

    private int walked() {
        int kind = random.nextInt(20);
        if (kind == 0) {
            int[] edges = {-1, naive.states(), Integer.MIN_VALUE, Integer.MAX_VALUE};
            return edges[random.nextInt(edges.length)];
        }
        return kind < 10 ? random.nextInt(naive.states()) : random.nextInt(Math.min(6, naive.states()));
    }
}
