import java.util.Arrays;

/**
 * Small machines walked whole: registers of a few bits, transfers for each input, what is given out.
 * What each call answers is told by the numbered promises of the document.
 */
public final class SmallExhaust {
    public static final int NONE = -1;

    private static final int MOST_REGISTERS = 4;
    private static final int WIDEST = 4;
    private static final int MOST_BITS = 12;
    private static final int MOST_INPUTS = 4;
    private static final int MOST_TRANSFERS = 8;
    private static final int OPS = 10;
    private static final int LARGEST_CONSTANT = 15;
    private static final int MOST_STATES = 1 << MOST_BITS;
    private static final int OUTPUT_MASK = 15;

    private final Machine machine = new Machine();
    private final Walk walk = new Walk();
    private final Grouping grouping = new Grouping();
    private final Telling telling = new Telling();
    private final int room;
    private int firstState = 0;

    public SmallExhaust(int room) {
        // 4096 divides 2 to the 32nd, so that the wrap-around of room - 1 does not change the rest
        this.room = 1 + Math.floorMod(room - 1, MOST_STATES);
    }

    public int register(int width) throws IllegalArgumentException, IllegalStateException,
            UnsupportedOperationException {
        if (width < 1 || width > WIDEST) {
            throw new IllegalArgumentException("no such width");
        }
        if (machine.inputs > 0) {
            throw new IllegalStateException("there is an input");
        }
        if (machine.registers >= MOST_REGISTERS || machine.bits + width > MOST_BITS) {
            throw new UnsupportedOperationException("no more registers or bits");
        }
        forgetMachine();
        return machine.addRegister(width);
    }

    public int input(int op, int a, int b) throws IllegalArgumentException,
            UnsupportedOperationException {
        if (!machine.hasExpression(op, a, b)) {
            throw new IllegalArgumentException("no such op or operand");
        }
        if (machine.inputs >= MOST_INPUTS) {
            throw new UnsupportedOperationException("no more inputs");
        }
        forgetMachine();
        return machine.addInput(op, a, b);
    }

    public int transfer(int input, int register, int op, int a, int b)
            throws IllegalArgumentException, UnsupportedOperationException {
        if (!machine.hasInput(input) || !machine.hasRegister(register)
                || !machine.hasExpression(op, a, b)) {
            throw new IllegalArgumentException("no such input, register, op or operand");
        }
        if (machine.rules[input].transfers >= MOST_TRANSFERS) {
            throw new UnsupportedOperationException("no more transfers");
        }
        forgetMachine();
        return machine.addTransfer(input, register, op, a, b);
    }

    public int first(int state) throws IllegalArgumentException {
        needState(state);
        int before = firstState;
        if (state != before) {
            firstState = state;
            forgetWalk();
        }
        return before;
    }

    public int step(int state, int input) throws IllegalArgumentException {
        needState(state);
        needInput(input);
        return machine.next(state, input);
    }

    public int output(int state, int input) throws IllegalArgumentException {
        needState(state);
        needInput(input);
        return machine.given(state, input);
    }

    public int walked() throws UnsupportedOperationException {
        needRoom();
        return walk.size;
    }

    public int state(int k) throws UnsupportedOperationException, IndexOutOfBoundsException {
        needRoom();
        needWalked(k);
        return walk.order[k];
    }

    public int number(int state) throws UnsupportedOperationException, IllegalArgumentException {
        needRoom();
        needState(state);
        return walk.numberOf[state];
    }

    public int way(int k, int i) throws UnsupportedOperationException, IndexOutOfBoundsException {
        needRoom();
        needWalked(k);
        needPlace(i);
        return walk.ways.letter(k, i);
    }

    public boolean alike(int a, int b) throws IllegalArgumentException {
        needState(a);
        needState(b);
        telling.run(machine, a, b);
        return !telling.apart;
    }

    public int word(int a, int b, int i) throws IllegalArgumentException,
            IndexOutOfBoundsException {
        needState(a);
        needState(b);
        needPlace(i);
        telling.run(machine, a, b);
        return telling.letter(i);
    }

    public int classes() throws UnsupportedOperationException {
        needRoom();
        grouping.run(machine, walk);
        return grouping.groups;
    }

    public int classOf(int k) throws UnsupportedOperationException,
            IndexOutOfBoundsException {
        needRoom();
        needWalked(k);
        grouping.run(machine, walk);
        return grouping.groupOf[k];
    }

    public int least(int k, int input, int what) throws UnsupportedOperationException,
            IndexOutOfBoundsException {
        needRoom();
        grouping.run(machine, walk);
        if (k < 0 || k >= grouping.groups || !machine.hasInput(input) || what < 0 || what > 1) {
            throw new IndexOutOfBoundsException("no such class, input or what");
        }
        int member = walk.order[grouping.lowest[k]];
        if (what == 1) {
            return machine.given(member, input);
        }
        return grouping.groupOf[walk.numberOf[machine.next(member, input)]];
    }

    public int count(int what) {
        switch (what) {
            case 0:
                return machine.registers;
            case 1:
                return machine.bits;
            case 2:
                return machine.inputs;
            case 3:
                return machine.transfers;
            case 4:
                return room;
            case 5:
                return firstState;
            case 6:
            case 7:
            case 8:
                return countWalk(what);
            default:
                return NONE;
        }
    }

    private int countWalk(int what) {
        walk.run(machine, firstState, room);
        if (!walk.fits) {
            return NONE;
        }
        if (what == 6) {
            // by breadth, none comes later than the last one
            return walk.ways.length(walk.size - 1);
        }
        return what == 7 ? walk.joined : walk.resting;
    }

    private void needState(int state) {
        if (!machine.hasState(state)) {
            throw new IllegalArgumentException("no such state");
        }
    }

    private void needInput(int input) {
        if (!machine.hasInput(input)) {
            throw new IllegalArgumentException("no such input");
        }
    }

    private void needRoom() {
        walk.run(machine, firstState, room);
        if (!walk.fits) {
            throw new UnsupportedOperationException("more states come than there is room for");
        }
    }

    private void needWalked(int k) {
        if (k < 0 || k >= walk.size) {
            throw new IndexOutOfBoundsException("no such walked state");
        }
    }

    private void needPlace(int i) {
        if (i < 0) {
            throw new IndexOutOfBoundsException("a place below 0");
        }
    }

    // What has been worked out is kept until a call changes what it was worked out from.

    private void forgetWalk() {
        walk.stands = false;
        grouping.stands = false;
    }

    private void forgetMachine() {
        forgetWalk();
        telling.stands = false;
    }

    /** What one input does: its output's expression at place 0, those of its transfers behind it. */
    private static final class Rule {
        static final int OUTPUT = 0;

        final int[] targets = new int[1 + MOST_TRANSFERS];
        final int[] ops = new int[1 + MOST_TRANSFERS];
        final int[] lefts = new int[1 + MOST_TRANSFERS];
        final int[] rights = new int[1 + MOST_TRANSFERS];
        int transfers = 0;

        // For each state what has been worked out of it, or NONE; so a step is worked out but once.
        int[] moves = new int[0];

        void put(int place, int op, int a, int b) {
            ops[place] = op;
            lefts[place] = a;
            rights[place] = b;
        }
    }

    /** Registers and inputs, and one step of them. */
    private static final class Machine {
        final int[] shifts = new int[MOST_REGISTERS];
        final int[] masks = new int[MOST_REGISTERS];
        final Rule[] rules = new Rule[MOST_INPUTS];
        int registers = 0;
        int bits = 0;
        int inputs = 0;
        int transfers = 0;

        Machine() {
            for (int i = 0; i < MOST_INPUTS; i++) {
                rules[i] = new Rule();
            }
        }

        int states() {
            return 1 << bits;
        }

        boolean hasState(int state) {
            return state >= 0 && state < states();
        }

        boolean hasInput(int input) {
            return input >= 0 && input < inputs;
        }

        boolean hasRegister(int register) {
            return register >= 0 && register < registers;
        }

        boolean hasOperand(int operand) {
            return operand >= -1 - LARGEST_CONSTANT && operand < registers;
        }

        boolean hasExpression(int op, int a, int b) {
            return op >= 0 && op < OPS && hasOperand(a) && hasOperand(b);
        }

        int addRegister(int width) {
            int added = registers;
            shifts[added] = bits;
            masks[added] = (1 << width) - 1;
            bits += width;
            registers++;
            return added;
        }

        int addInput(int op, int a, int b) {
            int added = inputs;
            Rule rule = rules[added];
            rule.put(Rule.OUTPUT, op, a, b);
            // no register comes behind an input, so that the row's length stays right
            rule.moves = new int[states()];
            Arrays.fill(rule.moves, NONE);
            inputs++;
            return added;
        }

        int addTransfer(int input, int register, int op, int a, int b) {
            Rule rule = rules[input];
            rule.transfers++;
            rule.targets[rule.transfers] = register;
            rule.put(rule.transfers, op, a, b);
            Arrays.fill(rule.moves, NONE);
            transfers++;
            return rule.transfers;
        }

        int next(int state, int input) {
            return move(state, input) & (MOST_STATES - 1);
        }

        int given(int state, int input) {
            return move(state, input) >> MOST_BITS;
        }

        /** The state behind one, and above its bits what is given out. */
        private int move(int state, int input) {
            Rule rule = rules[input];
            if (rule.moves[state] != NONE) {
                return rule.moves[state];
            }
            int out = 0;
            int after = state;
            for (int place = 0; place <= rule.transfers; place++) {
                int a = operandValue(rule.lefts[place], state);
                int b = operandValue(rule.rights[place], state);
                int value = valueOf(rule.ops[place], a, b);
                if (place == Rule.OUTPUT) {
                    out = value & OUTPUT_MASK;
                } else {
                    after = withRegister(after, rule.targets[place], value);
                }
            }
            rule.moves[state] = (out << MOST_BITS) | after;
            return rule.moves[state];
        }

        private int withRegister(int state, int register, int value) {
            int others = state & ~(masks[register] << shifts[register]);
            return others | (value & masks[register]) << shifts[register];
        }

        private int operandValue(int operand, int state) {
            if (operand < 0) {
                return -1 - operand;
            }
            return (state >> shifts[operand]) & masks[operand];
        }

        private static int valueOf(int op, int a, int b) {
            switch (op) {
                case 0:
                    return a + b;
                case 1:
                    return a - b;
                case 2:
                    return a & b;
                case 3:
                    return a | b;
                case 4:
                    return a ^ b;
                case 5:
                    return a * b;
                case 6:
                    return a < b ? 1 : 0;
                case 7:
                    return a == b ? 1 : 0;
                case 8:
                    return b != 0 ? a : 0;
                default:
                    return (a >> 1) + 8 * b;
            }
        }
    }

    /** Words kept as a tree: each place knows the place before it and the input that leads on. */
    private static final class Trail {
        private int[] back = new int[0];

        void makeRows(int places) {
            back = new int[places];
        }

        void start(int place) {
            back[place] = NONE;
        }

        void lead(int before, int input, int place) {
            back[place] = before * MOST_INPUTS + input;
        }

        int length(int place) {
            int at = place;
            int letters = 0;
            while (letters < back.length && back[at] != NONE) {
                at = back[at] / MOST_INPUTS;
                letters++;
            }
            return letters;
        }

        int letter(int place, int i) {
            int behind = length(place) - 1 - i;
            if (behind < 0) {
                return NONE;
            }
            int at = place;
            for (int n = 0; n < behind; n++) {
                at = back[at] / MOST_INPUTS;
            }
            return back[at] % MOST_INPUTS;
        }
    }

    /** All states that come from a first one, by breadth. */
    private static final class Walk {
        final Trail ways = new Trail();
        int[] order = new int[0];
        int[] numberOf = new int[0];
        int size = 0;
        boolean stands = false;
        boolean fits = false;
        int joined = 0;
        int resting = 0;
        private int[] entered = new int[0];

        void run(Machine machine, int first, int room) {
            if (stands) {
                return;
            }
            stands = true;
            int states = machine.states();
            makeRows(states);
            Arrays.fill(numberOf, NONE);
            size = 0;
            fits = true;
            joined = 0;
            resting = 0;
            come(first);
            ways.start(0);
            for (int k = 0; k < states && k < size && fits; k++) {
                goOn(machine, k, room);
            }
        }

        private void makeRows(int states) {
            if (order.length < states) {
                order = new int[states];
                numberOf = new int[states];
                entered = new int[states];
                ways.makeRows(states);
            }
        }

        private void come(int state) {
            numberOf[state] = size;
            order[size] = state;
            entered[size] = 0;
            size++;
        }

        private void goOn(Machine machine, int k, int room) {
            int state = order[k];
            boolean rests = true;
            for (int input = 0; input < machine.inputs; input++) {
                int next = machine.next(state, input);
                if (numberOf[next] == NONE) {
                    if (size >= room) {
                        fits = false;
                        return;
                    }
                    ways.lead(k, input, size);
                    come(next);
                }
                enter(numberOf[next]);
                rests = rests && next == state;
            }
            if (rests) {
                resting++;
            }
        }

        private void enter(int k) {
            entered[k]++;
            if (entered[k] == 2) {
                joined++;
            }
        }
    }

    /**
     * The classes of walked states. Parted first by what is given out, then again and again by the
     * classes that inputs lead to, until no class is parted any more.
     */
    private static final class Grouping {
        // odd, with bits set all over; any such number does
        static final long SPREAD = 0x9E3779B97F4A7C15L;

        int[] groupOf = new int[0];
        int[] lowest = new int[0];
        int groups = 0;
        boolean stands = false;
        private long[] keys = new long[0];
        private int[] slots = new int[0];
        private int lastSlot = 0;

        void run(Machine machine, Walk walk) {
            if (stands) {
                return;
            }
            stands = true;
            makeRows(walk.order.length);
            chooseSlots(walk.size);
            for (int k = 0; k < walk.size; k++) {
                keys[k] = outputKey(machine, walk.order[k]);
            }
            int before = 0;
            numberByKeys(walk.size);
            for (int round = 0; round < walk.size && groups > before; round++) {
                before = groups;
                for (int k = 0; k < walk.size; k++) {
                    keys[k] = nextKey(machine, walk, k);
                }
                numberByKeys(walk.size);
            }
        }

        private void makeRows(int states) {
            if (groupOf.length < states) {
                groupOf = new int[states];
                lowest = new int[states];
                keys = new long[states];
                slots = new int[2 * states];
            }
        }

        /** A power of two of slots, at least two for each key, so that there are always free ones. */
        private void chooseSlots(int size) {
            int used = 2;
            for (int n = 0; n < MOST_BITS && used < 2 * size; n++) {
                used = 2 * used;
            }
            lastSlot = used - 1;
        }

        private static long outputKey(Machine machine, int state) {
            long key = 0;
            for (int input = 0; input < machine.inputs; input++) {
                key = key * (OUTPUT_MASK + 1) + machine.given(state, input);
            }
            return key;
        }

        /** The class and the classes behind it: five numbers of 12 bits at most, so a long holds them. */
        private long nextKey(Machine machine, Walk walk, int k) {
            long key = groupOf[k];
            for (int input = 0; input < machine.inputs; input++) {
                int next = walk.numberOf[machine.next(walk.order[k], input)];
                key = key * MOST_STATES + groupOf[next];
            }
            return key;
        }

        /** Equal keys get one number; numbers go by the first state that has the key. */
        private void numberByKeys(int size) {
            for (int slot = 0; slot <= lastSlot; slot++) {
                slots[slot] = NONE;
            }
            groups = 0;
            for (int k = 0; k < size; k++) {
                int slot = slotOf(keys[k]);
                if (slots[slot] == NONE) {
                    slots[slot] = groups;
                    lowest[groups] = k;
                    groups++;
                }
                groupOf[k] = slots[slot];
            }
        }

        /** The slot that holds the key, or else a free one. */
        private int slotOf(long key) {
            // the product's higher bits depend on all bits of the key, its lower ones do not
            int slot = (int) ((key * SPREAD) >>> 40) & lastSlot;
            for (int n = 0; n < lastSlot && slots[slot] != NONE; n++) {
                if (keys[lowest[slots[slot]]] == key) {
                    return slot;
                }
                slot = (slot + 1) & lastSlot;
            }
            return slot;
        }
    }

    /**
     * The word that tells two states apart. Pairs of states are looked at by breadth; a pair whose
     * states earlier pairs already join (through others, too) is left out: a word that tells it
     * apart would tell one of those apart, too, and that one comes by an earlier word.
     */
    private static final class Telling {
        boolean stands = false;
        boolean apart = false;
        private final Trail words = new Trail();
        private int[] lefts = new int[0];
        private int[] rights = new int[0];
        private int[] joinedTo = new int[0];
        private int left = NONE;
        private int right = NONE;
        private int size = 0;

        void run(Machine machine, int a, int b) {
            if (stands && left == a && right == b) {
                return;
            }
            stands = true;
            int states = machine.states();
            makeRows(states);
            for (int s = 0; s < states; s++) {
                joinedTo[s] = s;
            }
            left = a;
            right = b;
            apart = false;
            size = 0;
            if (join(a, b)) {
                words.start(0);
            }
            for (int k = 0; k < states && k < size && !apart; k++) {
                goOn(machine, k);
            }
        }

        /** Each kept pair joined two sets, so there is one place more than pairs: the word's end. */
        int letter(int i) {
            return apart ? words.letter(size, i) : NONE;
        }

        private void makeRows(int states) {
            if (lefts.length < states) {
                lefts = new int[states];
                rights = new int[states];
                joinedTo = new int[states];
                words.makeRows(states);
            }
        }

        private void goOn(Machine machine, int k) {
            int a = lefts[k];
            int b = rights[k];
            for (int input = 0; input < machine.inputs; input++) {
                if (machine.given(a, input) != machine.given(b, input)) {
                    apart = true;
                    words.lead(k, input, size);
                    return;
                }
                int place = size;
                if (join(machine.next(a, input), machine.next(b, input))) {
                    words.lead(k, input, place);
                }
            }
        }

        /** Keeps the pair, unless its states are joined already. */
        private boolean join(int a, int b) {
            int rootA = rootOf(a);
            int rootB = rootOf(b);
            if (rootA == rootB) {
                return false;
            }
            joinedTo[rootA] = rootB;
            lefts[size] = a;
            rights[size] = b;
            size++;
            return true;
        }

        private int rootOf(int state) {
            int at = state;
            for (int n = 0; n < joinedTo.length && joinedTo[at] != at; n++) {
                // the chain is made shorter on the way, for those who ask later
                joinedTo[at] = joinedTo[joinedTo[at]];
                at = joinedTo[at];
            }
            return at;
        }
    }
}
