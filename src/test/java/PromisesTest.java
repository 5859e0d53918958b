/** Each promise by hand: ordinary inputs, the edges that the document names, and wrong inputs. */
public final class PromisesTest {
    private static final String IAE = "throws.IllegalArgumentException";
    private static final String ISE = "throws.IllegalStateException";
    private static final String UOE = "throws.UnsupportedOperationException";
    private static final String IOOBE = "throws.IndexOutOfBoundsException";
    private static final String NONE = "-1";
    private static final int LOW = Integer.MIN_VALUE;
    private static final int HIGH = Integer.MAX_VALUE;

    public static void main(String[] args) {
        Runs.due("NONE", SmallExhaust.NONE, -1);
        newObject();
        register();
        input();
        transfer();
        transfersGoByTheNumbersBefore();
        first();
        opsGivenOut();
        opsCutToRegisters();
        stepAndOutput();
        walkAndWays();
        alikeAndWord();
        wordsGoByLengthThenByInputs();
        classesAndLeast();
        counts();
        withoutInputs();
        withoutRegisters();
        withoutRoom();
        changesAreTakenUp();
        Runs.end();
    }

    private static void newObject() {
        int[][] rooms = {{1, 1}, {2, 2}, {4095, 4095}, {4096, 4096}, {4097, 1}, {0, 4096}, {-1, 4095},
            {-4095, 1}, {-4096, 4096}, {LOW, 4096}, {HIGH, 4095}};
        for (int[] room : rooms) {
            Runs.on(room[0], "count(4)", "" + room[1]);
        }
        Runs.on(7, "count(0)", "0", "count(1)", "0", "count(2)", "0", "count(3)", "0", "count(5)", "0",
                "state(0)", "0", "walked()", "1");
    }

    private static void register() {
        Runs.on(0, "register(0)", IAE, "register(5)", IAE, "register(-1)", IAE, "register(" + LOW + ")", IAE,
                "register(" + HIGH + ")", IAE, "count(0)", "0",
                "register(1)", "0", "register(4)", "1", "register(2)", "2", "register(3)", "3",
                "register(1)", UOE, "register(0)", IAE, "count(0)", "4", "count(1)", "10");
        Runs.on(0, "register(4)", "0", "register(4)", "1", "register(3)", "2", "register(2)", UOE,
                "register(1)", "3", "count(1)", "12", "register(1)", UOE, "register(5)", IAE,
                "input(0, 0, 0)", "0", "register(1)", ISE, "register(0)", IAE, "count(0)", "4");
        Runs.on(0, "register(2)", "0", "input(0, 0, 0)", "0", "register(2)", ISE, "count(0)", "1");
    }

    private static void input() {
        Runs.on(0, "input(0, 0, -1)", IAE, "input(0, -1, 0)", IAE, "register(2)", "0", "register(2)", "1",
                "input(-1, 0, 0)", IAE, "input(10, 0, 0)", IAE, "input(0, 2, 0)", IAE, "input(0, 0, 2)", IAE,
                "input(0, -17, 0)", IAE, "input(0, 0, -17)", IAE, "input(0, " + LOW + ", 0)", IAE,
                "input(0, 0, " + HIGH + ")", IAE, "input(" + LOW + ", 0, 0)", IAE, "count(2)", "0",
                "input(9, 1, -16)", "0", "input(0, -16, -1)", "1", "input(8, 0, 1)", "2", "input(0, 1, 1)", "3",
                "input(0, 0, 0)", UOE, "input(10, 0, 0)", IAE, "input(0, 2, 0)", IAE, "count(2)", "4",
                "step(13, 3)", "13", "output(13, 3)", "6", "count(3)", "0");
    }

    private static void transfer() {
        SmallExhaust x = Runs.on(0, "register(2)", "0", "transfer(0, 0, 0, 0, 0)", IAE,
                "input(0, 0, -1)", "0", "input(0, 0, -1)", "1",
                "transfer(2, 0, 0, 0, 0)", IAE, "transfer(-1, 0, 0, 0, 0)", IAE,
                "transfer(0, 1, 0, 0, 0)", IAE, "transfer(0, -1, 0, 0, 0)", IAE,
                "transfer(0, 0, 10, 0, 0)", IAE, "transfer(0, 0, -1, 0, 0)", IAE,
                "transfer(0, 0, 0, 1, 0)", IAE, "transfer(0, 0, 0, 0, 1)", IAE,
                "transfer(0, 0, 0, -17, 0)", IAE, "transfer(0, 0, 0, 0, -17)", IAE,
                "transfer(0, 0, 0, 0, " + LOW + ")", IAE, "count(3)", "0");
        for (int n = 1; n <= 8; n++) {
            // each one sets register 0 to n: the last one counts
            Runs.more(x, "transfer(0, 0, 0, " + (-1 - n) + ", -1)", "" + n, "step(2, 0)", "" + n % 4,
                    "count(3)", "" + n);
        }
        Runs.more(x, "transfer(0, 0, 0, 0, 0)", UOE, "transfer(0, 1, 0, 0, 0)", IAE,
                "transfer(1, 0, 0, 0, -2)", "1", "transfer(1, 0, 0, 0, -3)", "2", "count(3)", "10",
                "step(2, 0)", "0", "step(1, 1)", "3");
    }

    private static void transfersGoByTheNumbersBefore() {
        // registers of 2 and 3 bits change their numbers; what is given out goes by those before
        Runs.on(0, "register(2)", "0", "register(3)", "1", "input(0, 0, 1)", "0",
                "transfer(0, 0, 0, 1, -1)", "1", "transfer(0, 1, 0, 0, -1)", "2",
                "step(" + (1 + 4 * 6) + ", 0)", "" + (2 + 4), "output(" + (1 + 4 * 6) + ", 0)", "7",
                "transfer(0, 0, 0, 0, -2)", "3", "step(" + (1 + 4 * 6) + ", 0)", "" + (2 + 4));
    }

    private static void first() {
        Runs.on(0, "first(0)", "0", "first(1)", IAE, "first(-1)", IAE, "register(2)", "0",
                "first(3)", "0", "first(4)", IAE, "first(" + LOW + ")", IAE, "first(" + HIGH + ")", IAE,
                "count(5)", "3", "register(1)", "1", "first(7)", "3", "first(7)", "7", "first(8)", IAE,
                "count(5)", "7", "state(0)", "7", "first(0)", "7", "state(0)", "0");
    }

    /** Of 13 and 6, and of edges, in registers of 4 bits. */
    private static void opsGivenOut() {
        int[][] rows = {{0, 13, 6, 3}, {0, 1, 2, 3}, {1, 13, 6, 7}, {1, 6, 13, 9}, {1, 0, 15, 1},
            {2, 13, 6, 4}, {3, 13, 6, 15}, {3, 9, 1, 9}, {4, 13, 6, 11}, {5, 13, 6, 14}, {5, 15, 15, 1},
            {6, 13, 6, 0}, {6, 6, 13, 1}, {6, 6, 6, 0}, {7, 13, 6, 0}, {7, 6, 6, 1}, {7, 0, 0, 1},
            {8, 13, 6, 13}, {8, 13, 0, 0}, {8, 0, 6, 0}, {9, 13, 0, 6}, {9, 13, 1, 14}, {9, 13, 6, 6},
            {9, 1, 3, 8}, {9, 15, 15, 15}};
        for (int[] row : rows) {
            int state = row[1] + 16 * row[2];
            String ask = "output(" + state + ", 0)";
            Runs.on(0, "register(4)", "0", "register(4)", "1", "input(" + row[0] + ", 0, 1)", "0", ask, "" + row[3]);
            Runs.on(0, "register(4)", "0", "register(4)", "1",
                    "input(" + row[0] + ", " + (-1 - row[1]) + ", " + (-1 - row[2]) + ")", "0",
                    "output(0, 0)", "" + row[3]);
        }
    }

    /** Of 13 and 6, whole, before it is cut to 1, 2, 3 and 4 bits. */
    private static void opsCutToRegisters() {
        int[] whole = {19, 7, 4, 15, 11, 78, 0, 0, 13, 54};
        for (int op = 0; op < whole.length; op++) {
            for (int width = 1; width <= 4; width++) {
                int cut = whole[op] % (1 << width);
                Runs.on(0, "register(" + width + ")", "0", "register(2)", "1", "input(0, 0, 0)", "0",
                        "transfer(0, 0, " + op + ", -14, -7)", "1", "step(" + (2 << width) + ", 0)",
                        "" + (cut + (2 << width)));
            }
        }
        Runs.on(0, "register(3)", "0", "input(0, 0, 0)", "0", "transfer(0, 0, 1, -2, -4)", "1", "step(0, 0)", "6");
    }

    private static void stepAndOutput() {
        Runs.on(0, "step(0, 0)", IAE, "output(0, 0)", IAE, "register(2)", "0", "input(0, 0, -2)", "0",
                "transfer(0, 0, 0, 0, -2)", "1", "step(0, 0)", "1", "step(3, 0)", "0", "output(3, 0)", "4",
                "step(4, 0)", IAE, "step(-1, 0)", IAE, "step(0, 1)", IAE, "step(0, -1)", IAE,
                "output(4, 0)", IAE, "output(-1, 0)", IAE, "output(0, 1)", IAE, "output(0, -1)", IAE,
                "step(" + LOW + ", 0)", IAE, "output(0, " + HIGH + ")", IAE);
    }

    /** Two bits; input 0 adds 1 and tells 3, input 1 doubles and tells nothing. */
    private static SmallExhaust addAndDouble(int room) {
        return Runs.on(room, "register(2)", "0", "input(7, 0, -4)", "0", "input(0, -1, -1)", "1",
                "transfer(0, 0, 0, 0, -2)", "1", "transfer(1, 0, 5, 0, -3)", "1", "first(1)", "0");
    }

    private static void walkAndWays() {
        SmallExhaust x = addAndDouble(4);
        Runs.more(x, "walked()", "4", "state(0)", "1", "state(1)", "2", "state(2)", "3", "state(3)", "0",
                "state(4)", IOOBE, "state(-1)", IOOBE, "state(" + LOW + ")", IOOBE, "state(" + HIGH + ")", IOOBE,
                "number(1)", "0", "number(2)", "1", "number(3)", "2", "number(0)", "3",
                "number(4)", IAE, "number(-1)", IAE,
                "way(0, 0)", NONE, "way(1, 0)", "0", "way(1, 1)", NONE,
                "way(2, 0)", "0", "way(2, 1)", "0", "way(2, 2)", NONE,
                "way(3, 0)", "0", "way(3, 1)", "1", "way(3, 2)", NONE, "way(3, " + HIGH + ")", NONE,
                "way(4, 0)", IOOBE, "way(-1, 0)", IOOBE, "way(0, -1)", IOOBE, "way(3, " + LOW + ")", IOOBE);
        // from 0 doubling stays, so that only adding leads on
        Runs.more(x, "first(0)", "1", "state(0)", "0", "state(3)", "3", "way(3, 2)", "0", "way(3, 3)", NONE);
        Runs.on(0, "register(2)", "0", "register(1)", "1", "input(0, 0, 0)", "0", "transfer(0, 0, 0, 0, -2)", "1",
                "walked()", "4", "number(3)", "3", "number(4)", NONE, "number(7)", NONE, "number(8)", IAE);
    }

    private static void alikeAndWord() {
        SmallExhaust x = addAndDouble(0);
        Runs.more(x, "alike(0, 0)", "true", "alike(0, 1)", "false", "alike(3, 0)", "false",
                "alike(4, 0)", IAE, "alike(0, 4)", IAE, "alike(-1, 0)", IAE, "alike(0, -1)", IAE,
                "alike(" + LOW + ", " + HIGH + ")", IAE,
                "word(0, 3, 0)", "0", "word(0, 3, 1)", NONE, "word(3, 0, 0)", "0",
                "word(1, 2, 0)", "0", "word(1, 2, 1)", "0", "word(1, 2, 2)", NONE,
                "word(0, 1, 2)", "0", "word(0, 1, 3)", NONE, "word(0, 1, " + HIGH + ")", NONE,
                "word(2, 2, 0)", NONE, "word(2, 2, -1)", IOOBE, "word(0, 1, -1)", IOOBE,
                "word(0, 1, " + LOW + ")", IOOBE, "word(4, 0, 0)", IAE, "word(0, 4, 0)", IAE,
                "word(-1, 0, -1)", IAE, "word(0, -1, -1)", IAE);
        // register 1 is never told, nor is what it does
        Runs.on(1, "register(1)", "0", "register(1)", "1", "input(0, 0, -1)", "0", "transfer(0, 1, 4, 1, -2)", "1",
                "alike(0, 2)", "true", "alike(1, 3)", "true", "alike(0, 1)", "false", "alike(2, 1)", "false",
                "word(0, 2, 0)", NONE, "word(0, 2, 5)", NONE, "word(0, 2, -1)", IOOBE, "word(2, 3, 0)", "0");
    }

    /** Input 0 stays and tells 0, inputs 1 and 2 add 1 and tell nothing. */
    private static void wordsGoByLengthThenByInputs() {
        Runs.on(0, "register(2)", "0", "input(7, 0, -1)", "0", "input(0, -1, -1)", "1", "input(0, -1, -1)", "2",
                "transfer(1, 0, 0, 0, -2)", "1", "transfer(2, 0, 0, 0, -2)", "1",
                "word(0, 2, 0)", "0", "word(0, 2, 1)", NONE,
                "word(2, 3, 0)", "1", "word(2, 3, 1)", "0", "word(2, 3, 2)", NONE,
                "word(1, 2, 0)", "1", "word(1, 2, 1)", "1", "word(1, 2, 2)", "0", "word(1, 2, 3)", NONE);
    }

    private static void classesAndLeast() {
        SmallExhaust x = Runs.on(4, "register(1)", "0", "register(1)", "1", "input(0, 0, -1)", "0",
                "input(0, -6, -1)", "1", "transfer(0, 0, 4, 0, -2)", "1", "transfer(1, 1, 4, 1, -2)", "1");
        Runs.more(x, "walked()", "4", "state(1)", "1", "state(2)", "2", "classes()", "2",
                "classOf(0)", "0", "classOf(1)", "1", "classOf(2)", "0", "classOf(3)", "1",
                "classOf(4)", IOOBE, "classOf(-1)", IOOBE, "classOf(" + LOW + ")", IOOBE,
                "least(0, 0, 0)", "1", "least(0, 1, 0)", "0", "least(1, 0, 0)", "0", "least(1, 1, 0)", "1",
                "least(0, 0, 1)", "0", "least(1, 0, 1)", "1", "least(0, 1, 1)", "5", "least(1, 1, 1)", "5",
                "least(2, 0, 0)", IOOBE, "least(-1, 0, 0)", IOOBE, "least(0, 2, 0)", IOOBE,
                "least(0, -1, 0)", IOOBE, "least(0, 0, 2)", IOOBE, "least(0, 0, -1)", IOOBE,
                "least(" + HIGH + ", 0, 0)", IOOBE, "least(0, " + LOW + ", 1)", IOOBE);
        // classes go by walked states' numbers, and those by the first state
        Runs.more(x, "first(1)", "0", "state(1)", "0", "state(2)", "3", "classOf(0)", "0", "classOf(1)", "1",
                "classOf(2)", "0", "least(0, 0, 1)", "1", "least(1, 0, 1)", "0");
        // states that are not walked make no class
        Runs.on(0, "register(2)", "0", "input(0, 0, -1)", "0", "transfer(0, 0, 4, 0, -2)", "1",
                "walked()", "2", "classes()", "2", "first(2)", "0", "classes()", "2", "least(1, 0, 1)", "3",
                "classOf(2)", IOOBE);
        // told apart only by words of three inputs
        SmallExhaust y = addAndDouble(0);
        Runs.more(y, "classes()", "4", "classOf(3)", "3", "least(1, 1, 0)", "3", "least(2, 0, 1)", "1");
    }

    private static void counts() {
        SmallExhaust x = addAndDouble(9);
        Runs.more(x, "count(0)", "1", "count(1)", "2", "count(2)", "2", "count(3)", "2", "count(4)", "9",
                "count(5)", "1", "count(6)", "2", "count(7)", "2", "count(8)", "0", "count(9)", NONE,
                "count(-1)", NONE, "count(" + LOW + ")", NONE, "count(" + HIGH + ")", NONE,
                "first(0)", "1", "count(6)", "3", "count(5)", "0");
        // both inputs set 1: nothing leads to 0, four steps lead to 1, which rests
        Runs.on(0, "register(1)", "0", "input(0, 0, 0)", "0", "input(0, 0, 0)", "1",
                "transfer(0, 0, 0, -2, -1)", "1", "transfer(1, 0, 0, -2, -1)", "1",
                "count(6)", "1", "count(7)", "1", "count(8)", "1");
        // two inputs of one state are two steps
        Runs.on(0, "register(1)", "0", "input(0, 0, 0)", "0", "input(0, 0, 0)", "1",
                "transfer(0, 0, 4, 0, -2)", "1", "transfer(1, 0, 4, 0, -2)", "1", "count(7)", "2", "count(8)", "0");
        // one step into each state; no step counts for being the first
        Runs.on(0, "register(2)", "0", "input(0, 0, 0)", "0", "transfer(0, 0, 0, 0, -2)", "1",
                "count(6)", "3", "count(7)", "0", "count(8)", "0");
        // a step that stays walks into its own state; only with all inputs staying does it rest
        Runs.on(0, "register(1)", "0", "input(0, 0, 0)", "0", "input(0, 0, 0)", "1", "count(7)", "1", "count(8)", "1",
                "transfer(0, 0, 4, 0, -2)", "1", "count(7)", "2", "count(8)", "0");
    }

    private static void withoutInputs() {
        Runs.on(1, "register(4)", "0", "first(9)", "0", "walked()", "1", "state(0)", "9", "state(1)", IOOBE,
                "number(9)", "0", "number(8)", NONE, "number(16)", IAE, "way(0, 0)", NONE, "way(1, 0)", IOOBE,
                "alike(3, 12)", "true", "word(3, 12, 0)", NONE, "word(3, 12, -1)", IOOBE, "word(3, 16, 0)", IAE,
                "classes()", "1", "classOf(0)", "0", "classOf(1)", IOOBE, "least(0, 0, 0)", IOOBE,
                "step(0, 0)", IAE, "count(6)", "0", "count(7)", "0", "count(8)", "1");
    }

    private static void withoutRegisters() {
        Runs.on(1, "input(0, -16, -3)", "0", "walked()", "1", "output(0, 0)", "1", "step(0, 0)", "0",
                "transfer(0, 0, 0, -1, -1)", IAE, "alike(0, 0)", "true", "alike(0, 1)", IAE, "classes()", "1",
                "least(0, 0, 0)", "0", "least(0, 0, 1)", "1", "number(0)", "0", "number(1)", IAE,
                "count(1)", "0", "count(7)", "0", "count(8)", "1", "register(1)", ISE);
    }

    private static void withoutRoom() {
        SmallExhaust x = addAndDouble(3);
        Runs.more(x, "walked()", UOE, "state(0)", UOE, "state(-1)", UOE, "number(0)", UOE, "number(-1)", UOE,
                "way(0, 0)", UOE, "way(-1, -1)", UOE, "classes()", UOE, "classOf(0)", UOE, "classOf(-1)", UOE,
                "least(0, 0, 0)", UOE, "least(-1, 9, 9)", UOE,
                "count(6)", NONE, "count(7)", NONE, "count(8)", NONE, "count(4)", "3", "count(5)", "1",
                "step(1, 0)", "2", "output(3, 0)", "1", "alike(0, 1)", "false", "word(0, 1, 2)", "0",
                "first(2)", "1", "walked()", UOE);
        // with more room the same is walked; a first state that fewer come from has room again
        Runs.on(3, "register(2)", "0", "input(0, 0, 0)", "0", "transfer(0, 0, 3, 0, -2)", "1",
                "input(0, 0, 0)", "1", "transfer(1, 0, 3, 0, -3)", "1", "walked()", UOE, "count(6)", NONE,
                "first(1)", "0", "walked()", "2", "classes()", "2", "count(8)", "1",
                "first(0)", "1", "classes()", UOE);
        Runs.on(4, "register(2)", "0", "input(0, 0, 0)", "0", "transfer(0, 0, 0, 0, -2)", "1", "walked()", "4");
        Runs.on(1, "register(2)", "0", "input(0, 0, 0)", "0", "walked()", "1",
                "transfer(0, 0, 0, 0, -2)", "1", "walked()", UOE);
    }

    private static void changesAreTakenUp() {
        Runs.on(0, "walked()", "1", "alike(0, 0)", "true", "classes()", "1", "register(1)", "0",
                "number(1)", NONE, "alike(0, 1)", "true", "classes()", "1", "register(4)", "1", "number(31)", NONE,
                "alike(0, 31)", "true", "input(0, -1, -1)", "0", "alike(0, 31)", "true", "walked()", "1",
                "transfer(0, 1, 0, 1, -2)", "1", "walked()", "16", "classes()", "1", "step(0, 0)", "2",
                "alike(0, 2)", "true", "input(0, 1, -1)", "1", "classes()", "16", "alike(0, 2)", "false",
                "word(0, 2, 0)", "1", "least(0, 1, 1)", "0", "least(3, 1, 1)", "3",
                "transfer(1, 0, 4, 0, -2)", "1", "walked()", "32", "classes()", "16", "alike(0, 1)", "true",
                "transfer(0, 1, 0, -1, -1)", "2", "step(2, 0)", "0", "walked()", "2", "classes()", "1",
                "first(4)", "0", "walked()", "4", "classes()", "2");
    }
}
