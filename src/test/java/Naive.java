import java.util.ArrayList;
import java.util.Collections;
import java.util.HashMap;
import java.util.List;
import java.util.Map;

/** The document once more, in the slowest and plainest way, to hold the program against. */
final class Naive {
    private static final int NONE = -1;

    private record Expression(int op, int a, int b) {
    }

    private record Transfer(int register, Expression expression) {
    }

    private static final class Input {
        final Expression output;
        final List<Transfer> transfers = new ArrayList<>();

        Input(Expression output) {
            this.output = output;
        }
    }

    private final int room;
    private final List<Integer> widths = new ArrayList<>();
    private final List<Input> inputs = new ArrayList<>();
    private int firstState = 0;

    // Worked out again after each change.
    private List<Integer> order;
    private List<List<Integer>> ways;
    private List<int[]> rounds;

    Naive(int room) {
        long rest = ((long) room - 1) % 4096;
        this.room = (int) (1 + (rest < 0 ? rest + 4096 : rest));
    }

    int bits() {
        return widths.stream().mapToInt(Integer::intValue).sum();
    }

    int states() {
        return 1 << bits();
    }

    private void need(boolean right) {
        if (!right) {
            throw new IllegalArgumentException();
        }
    }

    private void needIndex(boolean right) {
        if (!right) {
            throw new IndexOutOfBoundsException();
        }
    }

    private void needOpen(boolean right) {
        if (!right) {
            throw new UnsupportedOperationException();
        }
    }

    private void changed() {
        order = null;
        ways = null;
        rounds = null;
    }

    private boolean isOperand(int a) {
        return a < 0 ? a >= -16 : a < widths.size();
    }

    private boolean isExpression(int op, int a, int b) {
        return op >= 0 && op <= 9 && isOperand(a) && isOperand(b);
    }

    private boolean isState(int s) {
        return s >= 0 && s < states();
    }

    private boolean isInput(int i) {
        return i >= 0 && i < inputs.size();
    }

    int register(int width) {
        need(width >= 1 && width <= 4);
        if (!inputs.isEmpty()) {
            throw new IllegalStateException();
        }
        needOpen(widths.size() < 4 && bits() + width <= 12);
        widths.add(width);
        changed();
        return widths.size() - 1;
    }

    int input(int op, int a, int b) {
        need(isExpression(op, a, b));
        needOpen(inputs.size() < 4);
        inputs.add(new Input(new Expression(op, a, b)));
        changed();
        return inputs.size() - 1;
    }

    int transfer(int input, int register, int op, int a, int b) {
        need(isInput(input) && register >= 0 && register < widths.size() && isExpression(op, a, b));
        List<Transfer> transfers = inputs.get(input).transfers;
        needOpen(transfers.size() < 8);
        transfers.add(new Transfer(register, new Expression(op, a, b)));
        changed();
        return transfers.size();
    }

    int first(int state) {
        need(isState(state));
        int before = firstState;
        firstState = state;
        order = null;
        return before;
    }

    private int[] numbers(int state) {
        int[] numbers = new int[widths.size()];
        for (int r = 0; r < numbers.length; r++) {
            numbers[r] = state % (1 << widths.get(r));
            state /= 1 << widths.get(r);
        }
        return numbers;
    }

    private int value(Expression e, int[] numbers) {
        int a = e.a < 0 ? -1 - e.a : numbers[e.a];
        int b = e.b < 0 ? -1 - e.b : numbers[e.b];
        return switch (e.op) {
            case 0 -> a + b;
            case 1 -> a - b;
            case 2 -> a & b;
            case 3 -> a | b;
            case 4 -> a ^ b;
            case 5 -> a * b;
            case 6 -> a < b ? 1 : 0;
            case 7 -> a == b ? 1 : 0;
            case 8 -> b == 0 ? 0 : a;
            default -> a / 2 + b * 8;
        };
    }

    private int behind(int state, int input) {
        int[] before = numbers(state);
        int[] after = before.clone();
        for (Transfer t : inputs.get(input).transfers) {
            after[t.register] = Math.floorMod(value(t.expression, before), 1 << widths.get(t.register));
        }
        int packed = 0;
        for (int r = after.length - 1; r >= 0; r--) {
            packed = packed * (1 << widths.get(r)) + after[r];
        }
        return packed;
    }

    private int given(int state, int input) {
        return Math.floorMod(value(inputs.get(input).output, numbers(state)), 16);
    }

    int step(int state, int input) {
        need(isState(state) && isInput(input));
        return behind(state, input);
    }

    int output(int state, int input) {
        need(isState(state) && isInput(input));
        return given(state, input);
    }

    private void walk() {
        if (order != null) {
            return;
        }
        order = new ArrayList<>();
        ways = new ArrayList<>();
        Map<Integer, Integer> seen = new HashMap<>();
        order.add(firstState);
        ways.add(Collections.emptyList());
        seen.put(firstState, 0);
        for (int k = 0; k < order.size(); k++) {
            for (int i = 0; i < inputs.size(); i++) {
                int next = behind(order.get(k), i);
                if (seen.putIfAbsent(next, order.size()) == null) {
                    order.add(next);
                    List<Integer> way = new ArrayList<>(ways.get(k));
                    way.add(i);
                    ways.add(way);
                }
            }
        }
    }

    private boolean fits() {
        walk();
        return order.size() <= room;
    }

    int walked() {
        needOpen(fits());
        return order.size();
    }

    int state(int k) {
        needOpen(fits());
        needIndex(k >= 0 && k < order.size());
        return order.get(k);
    }

    int number(int state) {
        needOpen(fits());
        need(isState(state));
        return order.indexOf(state);
    }

    int way(int k, int i) {
        needOpen(fits());
        needIndex(k >= 0 && k < order.size() && i >= 0);
        return i < ways.get(k).size() ? ways.get(k).get(i) : NONE;
    }

    /** Round r parts all states that a word of at most r inputs tells apart. */
    private void part() {
        if (rounds != null) {
            return;
        }
        rounds = new ArrayList<>();
        int[] now = new int[states()];
        int parts = 1;
        rounds.add(now);
        while (true) {
            Map<List<Integer>, Integer> names = new HashMap<>();
            int[] next = new int[now.length];
            for (int s = 0; s < now.length; s++) {
                List<Integer> name = new ArrayList<>();
                name.add(now[s]);
                for (int i = 0; i < inputs.size(); i++) {
                    name.add(given(s, i));
                    name.add(now[behind(s, i)]);
                }
                names.putIfAbsent(name, names.size());
                next[s] = names.get(name);
            }
            if (names.size() == parts) {
                return;
            }
            parts = names.size();
            now = next;
            rounds.add(now);
        }
    }

    private boolean together(int a, int b, int round) {
        int[] parts = rounds.get(Math.min(round, rounds.size() - 1));
        return parts[a] == parts[b];
    }

    private boolean same(int a, int b) {
        part();
        return together(a, b, rounds.size());
    }

    boolean alike(int a, int b) {
        need(isState(a) && isState(b));
        return same(a, b);
    }

    private List<Integer> telling(int a, int b) {
        List<Integer> word = new ArrayList<>();
        if (same(a, b)) {
            return word;
        }
        int length = 0;
        while (together(a, b, length)) {
            length++;
        }
        for (int left = length; left >= 1; left--) {
            for (int i = 0; i < inputs.size(); i++) {
                boolean tells = left == 1 ? given(a, i) != given(b, i)
                        : !together(behind(a, i), behind(b, i), left - 1);
                if (tells) {
                    word.add(i);
                    a = behind(a, i);
                    b = behind(b, i);
                    break;
                }
            }
        }
        return word;
    }

    int word(int a, int b, int i) {
        need(isState(a) && isState(b));
        needIndex(i >= 0);
        List<Integer> word = telling(a, b);
        return i < word.size() ? word.get(i) : NONE;
    }

    /** For each walked state the lowest number of one that is alike. */
    private List<Integer> lowest() {
        Map<Integer, Integer> byPart = new HashMap<>();
        List<Integer> lowest = new ArrayList<>();
        part();
        for (int k = 0; k < order.size(); k++) {
            int part = rounds.get(rounds.size() - 1)[order.get(k)];
            byPart.putIfAbsent(part, k);
            lowest.add(byPart.get(part));
        }
        return lowest;
    }

    private List<Integer> heads() {
        List<Integer> heads = new ArrayList<>();
        List<Integer> lowest = lowest();
        for (int k = 0; k < lowest.size(); k++) {
            if (lowest.get(k) == k) {
                heads.add(k);
            }
        }
        return heads;
    }

    int classes() {
        needOpen(fits());
        return heads().size();
    }

    int classOf(int k) {
        needOpen(fits());
        needIndex(k >= 0 && k < order.size());
        return heads().indexOf(lowest().get(k));
    }

    int least(int k, int input, int what) {
        needOpen(fits());
        List<Integer> heads = heads();
        needIndex(k >= 0 && k < heads.size() && isInput(input) && (what == 0 || what == 1));
        int member = order.get(heads.get(k));
        return what == 1 ? given(member, input) : classOf(order.indexOf(behind(member, input)));
    }

    int count(int what) {
        return switch (what) {
            case 0 -> widths.size();
            case 1 -> bits();
            case 2 -> inputs.size();
            case 3 -> inputs.stream().mapToInt(i -> i.transfers.size()).sum();
            case 4 -> room;
            case 5 -> firstState;
            case 6 -> fits() ? ways.stream().mapToInt(List::size).max().orElse(0) : NONE;
            case 7 -> fits() ? joined() : NONE;
            case 8 -> fits() ? resting() : NONE;
            default -> NONE;
        };
    }

    private int joined() {
        Map<Integer, Integer> steps = new HashMap<>();
        for (int s : order) {
            for (int i = 0; i < inputs.size(); i++) {
                steps.merge(behind(s, i), 1, Integer::sum);
            }
        }
        return (int) steps.values().stream().filter(n -> n > 1).count();
    }

    private int resting() {
        int resting = 0;
        for (int s : order) {
            boolean rests = true;
            for (int i = 0; i < inputs.size(); i++) {
                rests &= behind(s, i) == s;
            }
            resting += rests ? 1 : 0;
        }
        return resting;
    }
}
