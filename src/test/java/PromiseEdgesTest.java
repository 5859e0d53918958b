/** The boundary cases that promises 1 to 17 name: each sentence with a test of its own. */
public final class PromiseEdgesTest {
    private static final String IAE = "throws.IllegalArgumentException";
    private static final String ISE = "throws.IllegalStateException";
    private static final String UOE = "throws.UnsupportedOperationException";
    private static final String IOOBE = "throws.IndexOutOfBoundsException";
    private static final String NONE = "-1";
    private static final int LOW = Integer.MIN_VALUE;
    private static final int HIGH = Integer.MAX_VALUE;

    public static void main(String[] args) {
        newObject();
        register();
        input();
        transfer();
        first();
        stepAndOutput();
        walked();
        ways();
        alikeAndWord();
        classes();
        least();
        count();
        Runs.end();
    }

    private static void newObject() {
        Runs.sentence("1: No registers, no inputs", PromiseEdgesTest::newIsEmpty);
        Runs.sentence("1: the first state is 0", PromiseEdgesTest::newFirstState);
        Runs.sentence("1: room is 1 + (room - 1) modulo 4096", PromiseEdgesTest::newRoom);
        Runs.sentence("1: (the rest not below 0)", PromiseEdgesTest::newRoomBelow1);
    }

    private static void register() {
        Runs.sentence("2: A register more: its number", PromiseEdgesTest::registerNumbers);
        Runs.sentence("2: IllegalArgumentException, when the width is none", PromiseEdgesTest::registerWidth);
        Runs.sentence("2: IllegalStateException, when there is an input", PromiseEdgesTest::registerBehindInput);
        Runs.sentence("2: UnsupportedOperationException, when there are four", PromiseEdgesTest::registerFifth);
        Runs.sentence("2: or it would be more than 12 bits", PromiseEdgesTest::registerThirteenthBit);
        Runs.sentence("2: (a refused register changes nothing)", PromiseEdgesTest::registerRefused);
    }

    private static void input() {
        Runs.sentence("3: An input more ..: its number", PromiseEdgesTest::inputNumbers);
        Runs.sentence("3: that does nothing", PromiseEdgesTest::inputDoesNothing);
        Runs.sentence("3: IllegalArgumentException, when there is no such op", PromiseEdgesTest::inputOp);
        Runs.sentence("3: or operand", PromiseEdgesTest::inputOperand);
        Runs.sentence("3: UnsupportedOperationException, when there are four", PromiseEdgesTest::inputFifth);
        Runs.sentence("3: (a refused input changes nothing)", PromiseEdgesTest::inputRefused);
    }

    private static void transfer() {
        Runs.sentence("4: A transfer of an input more: how many", PromiseEdgesTest::transferHowMany);
        Runs.sentence("4: IllegalArgumentException, when there is no such input", PromiseEdgesTest::transferInput);
        Runs.sentence("4: (no such) register", PromiseEdgesTest::transferRegister);
        Runs.sentence("4: (no such) op", PromiseEdgesTest::transferOp);
        Runs.sentence("4: (no such) operand", PromiseEdgesTest::transferOperand);
        Runs.sentence("4: UnsupportedOperationException, when it has eight", PromiseEdgesTest::transferNinth);
        Runs.sentence("4: (a refused transfer changes nothing)", PromiseEdgesTest::transferRefused);
    }

    private static void first() {
        Runs.sentence("5: The first state: the one before", PromiseEdgesTest::firstBefore);
        Runs.sentence("5: IllegalArgumentException, when it is none", PromiseEdgesTest::firstNone);
        Runs.sentence("5: with registers as they are", PromiseEdgesTest::firstWithRegistersAsTheyAre);
        Runs.sentence("5: 0 stays one", PromiseEdgesTest::firstZero);
        Runs.sentence("5: (a refused first state changes nothing)", PromiseEdgesTest::firstRefused);
    }

    private static void stepAndOutput() {
        Runs.sentence("6: The state behind one with an input", PromiseEdgesTest::stepAtTheEdges);
        Runs.sentence("6: IllegalArgumentException, when there is no such state", () -> noState("step(", ", 0)"));
        Runs.sentence("6: or input", () -> noInput("step(0, "));
        Runs.sentence("7: What is given out there", PromiseEdgesTest::outputAtTheEdges);
        Runs.sentence("7: IllegalArgumentException, when there is no such state", () -> noState("output(", ", 0)"));
        Runs.sentence("7: or input", () -> noInput("output(0, "));
    }

    private static void walked() {
        Runs.sentence("8: How many states are walked", PromiseEdgesTest::walkedFewestAndMost);
        Runs.sentence("8: (UnsupportedOperationException without room)", () -> withoutRoom("walked()"));
        Runs.sentence("9: The k-th walked state", PromiseEdgesTest::stateFirstAndLast);
        Runs.sentence("9: IndexOutOfBoundsException, when there is none", () -> noWalked("state(", ")"));
        Runs.sentence("9: (UnsupportedOperationException without room)", () -> withoutRoom("state(0)", "state(-1)"));
        Runs.sentence("10: The number of a state among those walked", PromiseEdgesTest::numberFirstAndLast);
        Runs.sentence("10: or NONE", PromiseEdgesTest::numberNone);
        Runs.sentence("10: IllegalArgumentException, when there is no such state", () -> noState("number(", ")"));
        Runs.sentence("10: (UnsupportedOperationException without room)", () -> withoutRoom("number(0)", "number(4)"));
    }

    private static void ways() {
        Runs.sentence("11: Input i of a shortest way to the k-th walked state", PromiseEdgesTest::wayShortest);
        Runs.sentence("11: (of these the first one as words go)", PromiseEdgesTest::wayFirstAsWordsGo);
        Runs.sentence("11: NONE behind its last one", PromiseEdgesTest::wayBehindItsLast);
        Runs.sentence("11: IndexOutOfBoundsException, when there is no such state", () -> noWalked("way(", ", 0)"));
        Runs.sentence("11: or i is below 0", PromiseEdgesTest::wayBelow0);
        Runs.sentence("11: (UnsupportedOperationException without room)", () -> withoutRoom("way(0, 0)", "way(4, -1)"));
    }

    private static void alikeAndWord() {
        Runs.sentence("12: Whether two states are alike", PromiseEdgesTest::alikeOrNot);
        Runs.sentence("12: IllegalArgumentException, when there are no such states", PromiseEdgesTest::alikeNoStates);
        Runs.sentence("13: Input i of the word that tells two states apart", PromiseEdgesTest::wordInputs);
        Runs.sentence("13: NONE behind its last one", PromiseEdgesTest::wordBehindItsLast);
        Runs.sentence("13: or when they are alike", PromiseEdgesTest::wordOfAlikeStates);
        Runs.sentence("13: IllegalArgumentException, when there are no such states", PromiseEdgesTest::wordNoStates);
        Runs.sentence("13: IndexOutOfBoundsException, when i is below 0", PromiseEdgesTest::wordBelow0);
    }

    private static void classes() {
        Runs.sentence("14: How many classes there are", PromiseEdgesTest::classesFewestAndMost);
        Runs.sentence("14: (UnsupportedOperationException without room)", () -> withoutRoom("classes()"));
        Runs.sentence("15: The class of the k-th walked state", PromiseEdgesTest::classOfFirstAndLast);
        Runs.sentence("15: IndexOutOfBoundsException, when there is none", () -> noWalked("classOf(", ")"));
        Runs.sentence("15: (UnsupportedOperationException without room)", () -> withoutRoom("classOf(0)", "classOf(-1)"));
    }

    private static void least() {
        Runs.sentence("16: the class behind a class with an input (what 0)", PromiseEdgesTest::leastBehind);
        Runs.sentence("16: what is given out (1)", PromiseEdgesTest::leastGiven);
        Runs.sentence("16: IndexOutOfBoundsException, when there is no such class", PromiseEdgesTest::leastNoClass);
        Runs.sentence("16: (no such) input", PromiseEdgesTest::leastNoInput);
        Runs.sentence("16: or what", PromiseEdgesTest::leastNoWhat);
        Runs.sentence("16: (UnsupportedOperationException without room)",
                () -> withoutRoom("least(0, 0, 0)", "least(0, 0, 1)", "least(9, 9, 9)"));
    }

    private static void count() {
        Runs.sentence("17: Registers (0)", PromiseEdgesTest::countRegisters);
        Runs.sentence("17: bits (1)", PromiseEdgesTest::countBits);
        Runs.sentence("17: inputs (2)", PromiseEdgesTest::countInputs);
        Runs.sentence("17: transfers (3)", PromiseEdgesTest::countTransfers);
        Runs.sentence("17: room (4)", PromiseEdgesTest::countRoom);
        Runs.sentence("17: the first state (5)", PromiseEdgesTest::countFirst);
        Runs.sentence("17: the longest of the shortest ways (6)", PromiseEdgesTest::countLongestWay);
        Runs.sentence("17: walked states that are walked into by more than one step of walked ones (7)",
                PromiseEdgesTest::countWalkedInto);
        Runs.sentence("17: walked states from which all inputs lead to themselves (8)", PromiseEdgesTest::countResting);
        Runs.sentence("17: NONE without room", PromiseEdgesTest::countWithoutRoom);
        Runs.sentence("17: or for another what", PromiseEdgesTest::countAnotherWhat);
    }

    /** States too small and too large, with registers and without. */
    private static void noState(String before, String after) {
        SmallExhaust x = Examples.counter(0);
        for (int state : new int[] {-1, 4, 5, 4095, 4096, LOW, HIGH, -4}) {
            Runs.more(x, before + state + after, IAE);
        }
        SmallExhaust wide = Examples.full(0);
        SmallExhaust bare = Runs.on(0, "input(0, -1, -1)", "0");
        Runs.more(wide, before + "4096" + after, IAE, before + "-1" + after, IAE);
        Runs.more(bare, before + "1" + after, IAE, before + "-1" + after, IAE, before + "0" + after, "0");
    }

    /** Inputs too small and too large, with inputs and without. */
    private static void noInput(String before) {
        SmallExhaust x = Examples.full(0);
        SmallExhaust bare = Examples.withoutInputs(0);
        for (int input : new int[] {-1, 3, 4, LOW, HIGH}) {
            Runs.more(x, before + input + ")", IAE);
            Runs.more(bare, before + input + ")", IAE);
        }
        Runs.more(bare, before + "0)", IAE, "input(0, -1, -1)", "0", before + "0)", "0", before + "1)", IAE);
    }

    /** Walked states too small and too large: of four, of one without inputs, and of all that there can be. */
    private static void noWalked(String before, String after) {
        SmallExhaust x = Examples.counter(0);
        SmallExhaust bare = Examples.withoutInputs(0);
        for (int k : new int[] {-1, 4, 4095, LOW, HIGH}) {
            Runs.more(x, before + k + after, IOOBE);
            Runs.more(bare, before + k + after, IOOBE);
        }
        Runs.more(bare, before + "1" + after, IOOBE, before + "5" + after, IOOBE);
        Runs.more(Examples.full(0), before + "4096" + after, IOOBE, before + "-1" + after, IOOBE);
        // there are more states than walked ones
        Runs.on(0, "register(2)", "0", "input(0, 0, 0)", "0", "transfer(0, 0, 4, 0, -2)", "1",
                before + "2" + after, IOOBE, before + "3" + after, IOOBE);
    }

    private static void withoutRoom(String... calls) {
        for (String call : calls) {
            Runs.more(Examples.counter(3), call, UOE);
            Runs.more(Examples.full(4095), call, UOE);
        }
    }

    private static void newIsEmpty() {
        Runs.on(5, "count(0)", "0", "count(1)", "0", "count(2)", "0", "count(3)", "0");
        Runs.on(5, "step(0, 0)", IAE, "output(0, 0)", IAE, "transfer(0, 0, 0, -1, -1)", IAE, "input(0, 0, -1)", IAE);
        Runs.on(5, "walked()", "1", "classes()", "1", "alike(0, 0)", "true", "register(1)", "0", "input(0, 0, 0)", "0");
    }

    private static void newFirstState() {
        Runs.on(0, "count(5)", "0", "state(0)", "0", "number(0)", "0", "first(0)", "0");
        Runs.on(1, "register(4)", "0", "count(5)", "0", "first(15)", "0", "count(5)", "15");
    }

    private static void newRoom() {
        int[][] rooms = {{1, 1}, {2, 2}, {4095, 4095}, {4096, 4096}, {4097, 1}, {8192, 4096}, {8193, 1}, {HIGH, 4095},
            {HIGH - 4094, 1}, {HIGH - 4095, 4096}};
        for (int[] room : rooms) {
            Runs.on(room[0], "count(4)", "" + room[1]);
        }
        Runs.more(Examples.counter(4097), "walked()", UOE);
        Runs.more(Examples.counter(4100), "walked()", "4");
    }

    private static void newRoomBelow1() {
        int[][] rooms = {{0, 4096}, {-1, 4095}, {-4094, 2}, {-4095, 1}, {-4096, 4096}, {-4097, 4095}, {-8191, 1},
            {LOW, 4096}, {LOW + 1, 1}, {LOW + 2, 2}};
        for (int[] room : rooms) {
            Runs.on(room[0], "count(4)", "" + room[1]);
        }
        Runs.more(Examples.counter(-4093), "walked()", UOE);
        Runs.more(Examples.counter(-4092), "walked()", "4");
    }

    private static void registerNumbers() {
        Runs.on(0, "register(4)", "0", "register(1)", "1", "register(4)", "2", "register(3)", "3");
    }

    private static void registerWidth() {
        SmallExhaust x = new SmallExhaust(0);
        for (int width : new int[] {0, -1, 5, 12, LOW, HIGH}) {
            Runs.more(x, "register(" + width + ")", IAE);
        }
        Runs.more(x, "register(1)", "0", "register(4)", "1", "register(0)", IAE, "register(5)", IAE);
    }

    private static void registerBehindInput() {
        Runs.on(0, "input(0, -1, -1)", "0", "register(1)", ISE, "register(4)", ISE, "count(0)", "0");
        Runs.on(0, "register(2)", "0", "input(10, 0, 0)", IAE, "register(2)", "1", "input(0, 0, 0)", "0",
                "register(2)", ISE, "count(0)", "2");
    }

    private static void registerFifth() {
        Runs.on(0, "register(1)", "0", "register(1)", "1", "register(1)", "2", "register(1)", "3", "register(1)", UOE,
                "register(4)", UOE);
        Runs.on(0, "register(2)", "0", "register(2)", "1", "register(2)", "2", "register(2)", "3", "register(4)", UOE);
    }

    private static void registerThirteenthBit() {
        Runs.on(0, "register(4)", "0", "register(4)", "1", "register(4)", "2", "register(1)", UOE, "register(4)", UOE);
        Runs.on(0, "register(4)", "0", "register(3)", "1", "register(2)", "2", "register(4)", UOE, "register(3)", "3");
    }

    private static void registerRefused() {
        Runs.on(0, "register(4)", "0", "register(4)", "1", "register(3)", "2", "register(2)", UOE, "register(5)", IAE,
                "count(0)", "3", "count(1)", "11", "first(2047)", "0", "first(2048)", IAE, "register(1)", "3",
                "first(4095)", "2047", "register(1)", UOE, "count(0)", "4", "count(1)", "12", "count(5)", "4095",
                "input(0, 3, -1)", "0", "register(1)", ISE, "count(0)", "4", "output(4095, 0)", "1", "walked()", "1");
    }

    private static void inputNumbers() {
        Runs.on(0, "input(0, -1, -1)", "0", "input(9, -16, -16)", "1", "input(0, -1, -2)", "2", "input(0, -1, -3)", "3",
                "output(0, 0)", "0", "output(0, 1)", "15", "output(0, 2)", "1", "output(0, 3)", "2");
    }

    private static void inputDoesNothing() {
        SmallExhaust x = Runs.on(1, "register(4)", "0", "register(4)", "1", "register(4)", "2", "input(0, 0, 1)", "0",
                "count(3)", "0", "walked()", "1", "count(8)", "1");
        for (int state : new int[] {0, 1, 15, 16, 255, 256, 2730, 4095}) {
            Runs.more(x, "step(" + state + ", 0)", "" + state);
        }
        // an input behind another one does not do what that one does
        Runs.more(x, "transfer(0, 0, 0, 0, -2)", "1", "input(0, 0, 0)", "1", "step(7, 1)", "7", "step(7, 0)", "8");
    }

    private static void inputOp() {
        SmallExhaust x = Runs.on(0, "register(2)", "0");
        for (int op : new int[] {-1, 10, 11, LOW, HIGH}) {
            Runs.more(x, "input(" + op + ", 0, 0)", IAE);
        }
        Runs.more(x, "input(0, 0, 0)", "0", "input(9, 0, 0)", "1", "count(2)", "2");
    }

    private static void inputOperand() {
        SmallExhaust x = Runs.on(0, "register(2)", "0", "register(2)", "1");
        for (int operand : new int[] {2, 3, 15, -17, -18, LOW, HIGH}) {
            Runs.more(x, "input(0, " + operand + ", 0)", IAE, "input(0, 0, " + operand + ")", IAE);
        }
        // an op that has no need of its second operand asks for one all the same
        Runs.more(x, "input(9, 0, 2)", IAE, "input(8, 0, -17)", IAE, "count(2)", "0");
        Runs.more(x, "input(0, 1, -16)", "0", "input(0, -16, 1)", "1", "input(0, -1, -1)", "2");
        Runs.on(0, "input(0, 0, -1)", IAE, "input(0, -1, 0)", IAE, "input(0, -1, -1)", "0");
    }

    private static void inputFifth() {
        Runs.on(0, "input(0, -1, -1)", "0", "input(0, -1, -1)", "1", "input(0, -1, -1)", "2", "input(0, -1, -1)", "3",
                "input(0, -1, -1)", UOE, "input(9, -16, -16)", UOE);
    }

    private static void inputRefused() {
        Runs.on(0, "register(1)", "0", "input(10, 0, 0)", IAE, "input(0, 1, 0)", IAE, "count(2)", "0", "alike(0, 1)", "true",
                "input(0, -1, -1)", "0", "input(0, -1, -1)", "1", "input(0, -1, -1)", "2", "input(0, -1, -1)", "3",
                "input(0, 0, 0)", UOE, "count(2)", "4", "output(1, 3)", "0", "step(1, 4)", IAE, "alike(0, 1)", "true");
    }

    private static void transferHowMany() {
        SmallExhaust x = Runs.on(0, "register(1)", "0", "register(2)", "1", "input(0, 0, 0)", "0", "input(0, 0, 0)", "1");
        for (int n = 1; n <= 8; n++) {
            // of one input, whatever the register, and however many another input has
            Runs.more(x, "transfer(1, " + n % 2 + ", 0, 0, 0)", "" + n);
        }
        Runs.more(x, "transfer(0, 1, 0, 0, 0)", "1", "transfer(0, 0, 0, 0, 0)", "2", "count(3)", "10");
    }

    private static void transferInput() {
        Runs.on(0, "register(1)", "0", "transfer(0, 0, 0, 0, 0)", IAE, "input(0, 0, 0)", "0", "input(0, 0, 0)", "1",
                "transfer(-1, 0, 0, 0, 0)", IAE, "transfer(2, 0, 0, 0, 0)", IAE, "transfer(3, 0, 0, 0, 0)", IAE,
                "transfer(4, 0, 0, 0, 0)", IAE, "transfer(" + LOW + ", 0, 0, 0, 0)", IAE,
                "transfer(" + HIGH + ", 0, 0, 0, 0)", IAE, "transfer(1, 0, 0, 0, 0)", "1", "count(3)", "1");
    }

    private static void transferRegister() {
        Runs.on(0, "register(1)", "0", "register(1)", "1", "input(0, 0, 0)", "0", "transfer(0, -1, 0, 0, 0)", IAE,
                "transfer(0, 2, 0, 0, 0)", IAE, "transfer(0, 3, 0, 0, 0)", IAE, "transfer(0, 4, 0, 0, 0)", IAE,
                "transfer(0, " + LOW + ", 0, 0, 0)", IAE, "transfer(0, " + HIGH + ", 0, 0, 0)", IAE,
                "transfer(0, 1, 0, 0, 0)", "1", "count(3)", "1");
        // without registers there is none to set
        Runs.on(0, "input(0, -1, -1)", "0", "transfer(0, 0, 0, -1, -1)", IAE, "transfer(0, -1, 0, -1, -1)", IAE);
    }

    private static void transferOp() {
        SmallExhaust x = Runs.on(0, "register(1)", "0", "input(0, 0, 0)", "0");
        for (int op : new int[] {-1, 10, 11, LOW, HIGH}) {
            Runs.more(x, "transfer(0, 0, " + op + ", 0, 0)", IAE);
        }
        Runs.more(x, "transfer(0, 0, 0, 0, 0)", "1", "transfer(0, 0, 9, 0, 0)", "2");
    }

    private static void transferOperand() {
        SmallExhaust x = Runs.on(0, "register(2)", "0", "register(2)", "1", "input(0, 0, 0)", "0");
        for (int operand : new int[] {2, 3, 15, -17, -18, LOW, HIGH}) {
            Runs.more(x, "transfer(0, 0, 0, " + operand + ", 0)", IAE, "transfer(0, 0, 0, 0, " + operand + ")", IAE);
        }
        Runs.more(x, "transfer(0, 0, 0, 1, -16)", "1", "transfer(0, 0, 0, -16, 1)", "2", "transfer(0, 0, 0, -1, -1)", "3");
    }

    private static void transferNinth() {
        SmallExhaust x = Runs.on(0, "register(1)", "0", "input(0, 0, 0)", "0", "input(0, 0, 0)", "1");
        for (int n = 1; n <= 8; n++) {
            Runs.more(x, "transfer(0, 0, 0, 0, 0)", "" + n);
        }
        // the other input has none yet
        Runs.more(x, "transfer(0, 0, 0, 0, 0)", UOE, "transfer(0, 0, 9, -16, -16)", UOE, "transfer(1, 0, 0, 0, 0)", "1");
    }

    private static void transferRefused() {
        SmallExhaust x = Runs.on(0, "register(4)", "0", "input(0, 0, -1)", "0", "transfer(0, 0, 0, 0, -2)", "1",
                "transfer(0, 1, 0, -1, -1)", IAE, "transfer(0, 0, 10, -1, -1)", IAE, "transfer(0, 0, 0, 1, -1)", IAE,
                "transfer(1, 0, 0, -1, -1)", IAE, "count(3)", "1", "step(4, 0)", "5", "walked()", "16");
        for (int n = 2; n <= 8; n++) {
            Runs.more(x, "transfer(0, 0, 0, 0, -2)", "" + n);
        }
        Runs.more(x, "transfer(0, 0, 0, -1, -1)", UOE, "count(3)", "8", "step(4, 0)", "5", "walked()", "16");
    }

    private static void firstBefore() {
        Runs.on(0, "register(4)", "0", "first(0)", "0", "first(15)", "0", "first(15)", "15", "first(1)", "15",
                "count(5)", "1", "state(0)", "1", "first(0)", "1", "state(0)", "0");
    }

    private static void firstNone() {
        SmallExhaust x = Runs.on(0, "register(3)", "0");
        for (int state : new int[] {-1, 8, 9, 4095, 4096, LOW, HIGH}) {
            Runs.more(x, "first(" + state + ")", IAE);
        }
        Runs.more(x, "first(7)", "0");
        Runs.more(Examples.full(0), "first(4096)", IAE, "first(-1)", IAE, "first(4095)", "0");
    }

    private static void firstWithRegistersAsTheyAre() {
        // what is no state yet is one as soon as there is a register more, and the first state stays as it was
        Runs.on(0, "first(1)", IAE, "register(1)", "0", "first(1)", "0", "first(2)", IAE, "register(4)", "1",
                "count(5)", "1", "state(0)", "1", "first(31)", "1", "first(32)", IAE, "register(3)", "2",
                "count(5)", "31", "first(255)", "31", "first(256)", IAE, "register(4)", "3", "first(4095)", "255");
    }

    private static void firstZero() {
        Runs.on(0, "first(0)", "0", "first(1)", IAE, "first(-1)", IAE, "first(0)", "0", "count(5)", "0", "walked()", "1");
        Runs.on(0, "input(0, -1, -1)", "0", "first(0)", "0", "first(1)", IAE);
    }

    private static void firstRefused() {
        Runs.on(0, "register(2)", "0", "first(2)", "0", "first(4)", IAE, "first(-1)", IAE, "count(5)", "2",
                "state(0)", "2", "first(3)", "2");
    }

    private static void stepAtTheEdges() {
        Runs.more(Examples.full(1), "step(0, 0)", "1", "step(0, 1)", "16", "step(0, 2)", "256", "step(4095, 0)", "4080",
                "step(4095, 1)", "3855", "step(4095, 2)", "255");
        Runs.on(0, "input(0, -1, -1)", "0", "step(0, 0)", "0");
    }

    private static void outputAtTheEdges() {
        Runs.more(Examples.full(1), "output(0, 0)", "0", "output(0, 2)", "0", "output(4095, 0)", "15",
                "output(4095, 2)", "15", "output(3840, 2)", "15", "output(3840, 1)", "0");
        Runs.on(0, "input(0, -16, -1)", "0", "output(0, 0)", "15");
    }

    private static void walkedFewestAndMost() {
        Runs.on(1, "walked()", "1");
        Runs.more(Examples.withoutInputs(1), "walked()", "1");
        Runs.more(Examples.counter(4), "walked()", "4");
        Runs.more(Examples.full(0), "walked()", "4096");
    }

    private static void stateFirstAndLast() {
        Runs.on(1, "state(0)", "0");
        Runs.more(Examples.counter(4), "first(3)", "0", "state(0)", "3", "state(3)", "2");
        // three states come behind 44 inputs: first the one that lacks an input 2, last the one that lacks an input 0
        Runs.more(Examples.full(0), "state(0)", "0", "state(4092)", "3839", "state(4093)", "4079", "state(4094)", "4094",
                "state(4095)", "4095");
    }

    private static void numberFirstAndLast() {
        Runs.on(1, "number(0)", "0");
        Runs.more(Examples.counter(4), "first(3)", "0", "number(3)", "0", "number(2)", "3");
        Runs.more(Examples.full(0), "number(0)", "0", "number(256)", "3", "number(4095)", "4095");
    }

    private static void numberNone() {
        Runs.on(0, "register(2)", "0", "input(0, 0, 0)", "0", "transfer(0, 0, 4, 0, -2)", "1", "number(0)", "0",
                "number(1)", "1", "number(2)", NONE, "number(3)", NONE, "first(3)", "0", "number(3)", "0",
                "number(2)", "1", "number(0)", NONE, "number(1)", NONE);
        Runs.more(Examples.withoutInputs(1), "number(5)", "0", "number(4)", NONE, "number(0)", NONE);
    }

    private static void wayShortest() {
        // input 0 adds 1, input 1 takes 1 away: 3 comes from 0 by input 1 alone, 2 by two inputs
        Runs.on(0, "register(2)", "0", "input(0, 0, 0)", "0", "input(0, 0, 0)", "1", "transfer(0, 0, 0, 0, -2)", "1",
                "transfer(1, 0, 1, 0, -2)", "1", "number(3)", "2", "way(2, 0)", "1", "way(2, 1)", NONE,
                "number(2)", "3", "way(3, 0)", "0", "way(3, 1)", "0", "way(3, 2)", NONE);
        Runs.more(Examples.full(0), "way(4095, 0)", "0", "way(4095, 44)", "2", "way(4095, 45)", NONE);
    }

    private static void wayFirstAsWordsGo() {
        // 4095 comes by 45 inputs, 15 of each, in any order
        Runs.more(Examples.full(0), "way(4095, 14)", "0", "way(4095, 15)", "1", "way(4095, 29)", "1", "way(4095, 30)", "2");
        // all four inputs lead to 1; from there all lead on to 2
        SmallExhaust x = Runs.on(0, "register(2)", "0");
        for (int i = 0; i < 4; i++) {
            Runs.more(x, "input(0, 0, 0)", "" + i, "transfer(" + i + ", 0, 0, 0, -2)", "1");
        }
        Runs.more(x, "way(1, 0)", "0", "way(3, 0)", "0", "way(3, 1)", "0", "way(3, 2)", "0", "way(3, 3)", NONE);
    }

    private static void wayBehindItsLast() {
        SmallExhaust x = Examples.counter(4);
        for (int k = 0; k < 4; k++) {
            for (int i = 0; i < k; i++) {
                Runs.more(x, "way(" + k + ", " + i + ")", "0");
            }
            Runs.more(x, "way(" + k + ", " + k + ")", NONE, "way(" + k + ", " + (k + 1) + ")", NONE,
                    "way(" + k + ", 4096)", NONE, "way(" + k + ", " + HIGH + ")", NONE);
        }
        Runs.on(1, "way(0, 0)", NONE, "way(0, " + HIGH + ")", NONE);
    }

    private static void wayBelow0() {
        Runs.more(Examples.counter(4), "way(0, -1)", IOOBE, "way(3, -1)", IOOBE, "way(3, " + LOW + ")", IOOBE,
                "way(4, -1)", IOOBE);
        Runs.on(1, "way(0, -1)", IOOBE, "way(0, " + LOW + ")", IOOBE);
    }

    private static void alikeOrNot() {
        Runs.more(Examples.halves(1), "alike(0, 0)", "true", "alike(0, 2)", "true", "alike(2, 0)", "true",
                "alike(1, 3)", "true", "alike(0, 3)", "false", "alike(3, 0)", "false");
        Runs.more(Examples.full(1), "alike(4095, 4095)", "true", "alike(4094, 4095)", "false", "alike(0, 4095)", "false");
        Runs.on(1, "alike(0, 0)", "true");
    }

    private static void alikeNoStates() {
        pairs("alike(", ")", IAE);
        Runs.on(0, "alike(0, 1)", IAE, "alike(1, 0)", IAE, "alike(1, 1)", IAE, "alike(-1, -1)", IAE);
    }

    /** One state or both of them too small or too large; none is alike to itself then, either. */
    private static void pairs(String before, String after, String due) {
        SmallExhaust x = Examples.counter(0);
        SmallExhaust bare = Examples.withoutInputs(0);
        for (int state : new int[] {-1, 8, 4095, 4096, LOW, HIGH}) {
            for (SmallExhaust one : new SmallExhaust[] {x, bare}) {
                Runs.more(one, before + state + ", 0" + after, due, before + "0, " + state + after, due,
                        before + state + ", " + state + after, due);
            }
        }
        Runs.more(x, before + "4, 3" + after, due, before + "3, 4" + after, due);
        Runs.more(Examples.full(0), before + "4096, 4095" + after, due, before + "4095, 4096" + after, due);
    }

    private static void wordInputs() {
        Runs.more(Examples.full(1), "word(0, 1, 0)", "0", "word(0, 16, 0)", "1", "word(0, 256, 0)", "2",
                "word(4095, 0, 0)", "0", "word(4095, 255, 0)", "2");
        Runs.more(Examples.counter(1), "word(0, 1, 0)", "0", "word(0, 1, 1)", "0", "word(0, 1, 2)", "0",
                "word(3, 2, 0)", "0");
    }

    private static void wordBehindItsLast() {
        Runs.more(Examples.counter(0), "word(3, 0, 1)", NONE, "word(3, 0, " + HIGH + ")", NONE, "word(2, 1, 1)", "0",
                "word(2, 1, 2)", NONE, "word(0, 1, 2)", "0", "word(0, 1, 3)", NONE, "word(0, 1, 4096)", NONE,
                "word(0, 1, " + HIGH + ")", NONE);
    }

    private static void wordOfAlikeStates() {
        Runs.more(Examples.halves(0), "word(0, 2, 0)", NONE, "word(2, 0, 1)", NONE, "word(3, 3, 0)", NONE,
                "word(1, 3, " + HIGH + ")", NONE);
        Runs.more(Examples.full(0), "word(0, 0, 0)", NONE, "word(4095, 4095, 0)", NONE, "word(4095, 4095, 9)", NONE);
        Runs.on(0, "word(0, 0, 0)", NONE, "word(0, 0, " + HIGH + ")", NONE);
    }

    private static void wordNoStates() {
        pairs("word(", ", 0)", IAE);
        pairs("word(", ", -1)", IAE);
        Runs.on(0, "word(0, 1, 0)", IAE, "word(1, 0, 0)", IAE, "word(1, 1, 0)", IAE);
    }

    private static void wordBelow0() {
        // whether they are told apart or not
        Runs.more(Examples.halves(0), "word(0, 1, -1)", IOOBE, "word(0, 2, -1)", IOOBE, "word(0, 0, -1)", IOOBE,
                "word(0, 1, " + LOW + ")", IOOBE, "word(0, 2, " + LOW + ")", IOOBE);
        Runs.on(0, "word(0, 0, -1)", IOOBE);
    }

    private static void classesFewestAndMost() {
        Runs.on(1, "classes()", "1");
        Runs.more(Examples.withoutInputs(1), "classes()", "1");
        Runs.more(Examples.halves(4), "classes()", "2");
        Runs.more(Examples.counter(4), "classes()", "4");
        Runs.more(Examples.full(0), "classes()", "4096");
        // all 4096 states come and none is told from another
        Runs.on(0, "register(4)", "0", "register(4)", "1", "register(4)", "2", "input(0, -1, -1)", "0",
                "input(0, -1, -1)", "1", "input(0, -1, -1)", "2", "transfer(0, 0, 0, 0, -2)", "1",
                "transfer(1, 1, 0, 1, -2)", "1", "transfer(2, 2, 0, 2, -2)", "1", "walked()", "4096", "classes()", "1");
    }

    private static void classOfFirstAndLast() {
        Runs.on(1, "classOf(0)", "0");
        Runs.more(Examples.halves(4), "classOf(0)", "0", "classOf(3)", "1");
        Runs.more(Examples.full(0), "classOf(0)", "0", "classOf(1)", "1", "classOf(4095)", "4095");
    }

    private static void leastBehind() {
        Runs.more(Examples.halves(4), "least(0, 0, 0)", "1", "least(1, 0, 0)", "0", "least(0, 1, 0)", "0",
                "least(1, 1, 0)", "1");
        Runs.more(Examples.full(0), "least(0, 0, 0)", "1", "least(0, 2, 0)", "3", "least(3, 2, 0)", "9");
        Runs.more(Examples.counter(4), "least(2, 0, 0)", "3", "least(3, 0, 0)", "0");
    }

    private static void leastGiven() {
        Runs.more(Examples.halves(4), "least(0, 0, 1)", "0", "least(1, 0, 1)", "1", "least(0, 1, 1)", "5",
                "least(1, 1, 1)", "5");
        Runs.more(Examples.full(0), "least(0, 0, 1)", "0", "least(4095, 0, 1)", "15", "least(4095, 2, 1)", "15",
                "least(3, 2, 1)", "1");
    }

    private static void leastNoClass() {
        // four states are walked, but there are two classes
        SmallExhaust x = Examples.halves(4);
        for (int k : new int[] {-1, 2, 3, 4, 4096, LOW, HIGH}) {
            Runs.more(x, "least(" + k + ", 0, 0)", IOOBE, "least(" + k + ", 1, 1)", IOOBE);
        }
        Runs.more(Examples.full(0), "least(4095, 0, 1)", "15", "least(4096, 0, 1)", IOOBE, "least(-1, 0, 1)", IOOBE);
    }

    private static void leastNoInput() {
        SmallExhaust x = Examples.halves(4);
        for (int input : new int[] {-1, 2, 3, 4, LOW, HIGH}) {
            Runs.more(x, "least(0, " + input + ", 0)", IOOBE, "least(0, " + input + ", 1)", IOOBE);
        }
        Runs.more(Examples.withoutInputs(1), "least(0, 0, 0)", IOOBE, "least(0, 0, 1)", IOOBE, "least(0, -1, 0)", IOOBE);
        Runs.on(1, "least(0, 0, 0)", IOOBE, "input(0, -3, -1)", "0", "least(0, 0, 0)", "0", "least(0, 0, 1)", "2");
    }

    private static void leastNoWhat() {
        SmallExhaust x = Examples.halves(4);
        for (int what : new int[] {-1, 2, 3, LOW, HIGH}) {
            Runs.more(x, "least(0, 0, " + what + ")", IOOBE, "least(1, 1, " + what + ")", IOOBE);
        }
    }

    private static void countRegisters() {
        Runs.on(1, "count(0)", "0", "register(1)", "0", "count(0)", "1", "register(1)", "1", "register(1)", "2",
                "register(1)", "3", "count(0)", "4", "register(1)", UOE, "count(0)", "4");
    }

    private static void countBits() {
        Runs.on(1, "count(1)", "0", "register(1)", "0", "count(1)", "1", "register(4)", "1", "count(1)", "5",
                "register(4)", "2", "register(4)", UOE, "count(1)", "9", "register(3)", "3", "count(1)", "12");
    }

    private static void countInputs() {
        Runs.on(1, "count(2)", "0", "input(0, -1, -1)", "0", "count(2)", "1", "input(0, -1, -1)", "1",
                "input(0, -1, -1)", "2", "input(0, -1, -1)", "3", "count(2)", "4", "input(0, -1, -1)", UOE, "count(2)", "4");
    }

    private static void countTransfers() {
        SmallExhaust x = Runs.on(1, "count(3)", "0", "register(1)", "0", "input(0, 0, 0)", "0", "input(0, 0, 0)", "1",
                "input(0, 0, 0)", "2", "input(0, 0, 0)", "3", "count(3)", "0");
        for (int n = 1; n <= 32; n++) {
            Runs.more(x, "transfer(" + n % 4 + ", 0, 0, 0, -1)", "" + (n + 3) / 4, "count(3)", "" + n);
        }
        Runs.more(x, "transfer(0, 0, 0, 0, -1)", UOE, "count(3)", "32");
    }

    private static void countRoom() {
        Runs.on(1, "count(4)", "1");
        Runs.on(4096, "count(4)", "4096");
        Runs.on(0, "count(4)", "4096");
        Runs.more(Examples.counter(1), "count(4)", "1", "walked()", UOE, "count(4)", "1");
        Runs.more(Examples.counter(9), "count(4)", "9", "walked()", "4", "count(4)", "9");
    }

    private static void countFirst() {
        Runs.on(1, "count(5)", "0", "register(4)", "0", "first(15)", "0", "count(5)", "15", "first(16)", IAE,
                "count(5)", "15", "first(0)", "15", "count(5)", "0");
        Runs.more(Examples.full(1), "first(4095)", "0", "count(5)", "4095");
    }

    private static void countLongestWay() {
        Runs.on(1, "count(6)", "0");
        Runs.more(Examples.withoutInputs(1), "count(6)", "0");
        Runs.on(1, "register(1)", "0", "input(0, 0, 0)", "0", "count(6)", "0");
        Runs.more(Examples.counter(4), "count(6)", "3", "first(2)", "0", "count(6)", "3");
        Runs.more(Examples.full(0), "count(6)", "45");
    }

    private static void countWalkedInto() {
        // none: not by inputs that there are not, and by one step each; being the first is no step
        Runs.on(1, "count(7)", "0");
        Runs.more(Examples.withoutInputs(1), "count(7)", "0");
        Runs.more(Examples.counter(4), "count(7)", "0");
        Runs.on(1, "register(1)", "0", "input(0, 0, 0)", "0", "count(7)", "0");
        // all
        Runs.more(Examples.full(0), "count(7)", "4096");
        // of two inputs that stay there are two steps into the one state
        Runs.on(1, "register(1)", "0", "input(0, 0, 0)", "0", "input(0, 0, 0)", "1", "count(7)", "1");
        // 1 comes from 0 and stays; the steps from 2 and 3, which are not walked, do not count
        Runs.on(0, "register(2)", "0", "input(0, 0, 0)", "0", "transfer(0, 0, 0, -2, -1)", "1", "count(7)", "1",
                "first(1)", "0", "count(7)", "0", "first(3)", "1", "count(7)", "1");
    }

    private static void countResting() {
        Runs.on(1, "count(8)", "1");
        Runs.more(Examples.withoutInputs(1), "count(8)", "1");
        Runs.more(Examples.counter(4), "count(8)", "0");
        Runs.more(Examples.full(0), "count(8)", "0");
        // 0 is halved to itself; with an input more that leads away from it, it rests no longer
        Runs.on(0, "register(4)", "0", "input(0, 0, 0)", "0", "transfer(0, 0, 9, 0, -1)", "1", "first(15)", "0",
                "walked()", "5", "count(8)", "1", "input(0, 0, 0)", "1", "count(8)", "1",
                "transfer(1, 0, 0, 0, -9)", "1", "count(8)", "0");
        // two of three: each input sets its bit, but not when the other one is set
        Runs.on(0, "register(1)", "0", "register(1)", "1", "input(0, 0, 0)", "0", "input(0, 0, 0)", "1",
                "transfer(0, 0, 7, 1, -1)", "1", "transfer(1, 1, 7, 0, -1)", "1", "walked()", "3", "count(8)", "2",
                "first(1)", "0", "walked()", "1", "count(8)", "1", "first(3)", "1", "walked()", "3", "count(8)", "2");
    }

    private static void countWithoutRoom() {
        Runs.more(Examples.counter(3), "count(6)", NONE, "count(7)", NONE, "count(8)", NONE);
        for (int what = 6; what <= 8; what++) {
            Runs.more(Examples.full(4095), "count(" + what + ")", NONE, "count(" + what + ")", NONE);
        }
        // what asks not of walked states is told without room, too
        Runs.more(Examples.counter(3), "first(2)", "0", "walked()", UOE, "count(0)", "1", "count(1)", "2", "count(2)", "1",
                "count(3)", "1", "count(4)", "3", "count(5)", "2");
    }

    private static void countAnotherWhat() {
        SmallExhaust x = Examples.counter(4);
        SmallExhaust y = Examples.counter(3);
        for (int what : new int[] {-1, 9, 10, LOW, HIGH}) {
            Runs.more(x, "count(" + what + ")", NONE);
            Runs.more(y, "count(" + what + ")", NONE);
        }
    }
}
