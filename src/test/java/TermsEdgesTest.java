/** The boundary cases that the document's head and its 'Terms' name: each sentence with a test of its own. */
public final class TermsEdgesTest {
    private static final String IAE = "throws.IllegalArgumentException";
    private static final String ISE = "throws.IllegalStateException";
    private static final String UOE = "throws.UnsupportedOperationException";
    private static final String IOOBE = "throws.IndexOutOfBoundsException";
    private static final String NONE = "-1";
    private static final int LOW = Integer.MIN_VALUE;
    private static final int HIGH = Integer.MAX_VALUE;

    public static void main(String[] args) {
        limits();
        expressions();
        steps();
        walks();
        alikes();
        exceptions();
        Runs.end();
    }

    private static void limits() {
        Runs.sentence("An object is used for at most 512 calls after it has been made",
                TermsEdgesTest::allOf512CallsAreAnswered);
        Runs.sentence("REGISTERS, up to 4", TermsEdgesTest::upTo4Registers);
        Runs.sentence("of WIDTHS 1 .. 4 bits", TermsEdgesTest::widths1To4);
        Runs.sentence("at most 12 bits together", TermsEdgesTest::atMost12Bits);
        Runs.sentence("a STATE is all their numbers: register 0 lowest, then 1, and so on",
                TermsEdgesTest::register0IsLowest);
        Runs.sentence("INPUTS, up to 4", TermsEdgesTest::upTo4Inputs);
        Runs.sentence("each has up to 8 TRANSFERS", TermsEdgesTest::each8Transfers);
    }

    private static void expressions() {
        Runs.sentence("OPERANDS: a register (its number)", TermsEdgesTest::operandsThatAreRegisters);
        Runs.sentence("or a constant c (0 .. 15) as -1 - c", TermsEdgesTest::operandsThatAreConstants);
        Runs.sentence("0 a + b", () -> op(0, new int[][] {{0, 0, 0}, {15, 0, 15}, {0, 15, 15}, {15, 15, 14}}));
        Runs.sentence("1 a - b", () -> op(1, new int[][] {{0, 0, 0}, {15, 15, 0}, {0, 1, 15}, {0, 15, 1}, {15, 0, 15}}));
        Runs.sentence("2 a & b", () -> op(2, new int[][] {{0, 0, 0}, {15, 0, 0}, {0, 15, 0}, {15, 15, 15}, {5, 10, 0}}));
        Runs.sentence("3 a | b", () -> op(3, new int[][] {{0, 0, 0}, {15, 0, 15}, {0, 15, 15}, {15, 15, 15}, {5, 10, 15}}));
        Runs.sentence("4 a exclusive or b",
                () -> op(4, new int[][] {{0, 0, 0}, {15, 0, 15}, {0, 15, 15}, {15, 15, 0}, {5, 6, 3}}));
        Runs.sentence("5 a * b",
                () -> op(5, new int[][] {{0, 15, 0}, {15, 0, 0}, {1, 15, 15}, {15, 1, 15}, {4, 4, 0}, {15, 15, 1}}));
        Runs.sentence("6 1 if a is below b, else 0",
                () -> op(6, new int[][] {{0, 0, 0}, {0, 1, 1}, {1, 0, 0}, {14, 15, 1}, {15, 15, 0}, {15, 14, 0}}));
        Runs.sentence("7 1 if a is b, else 0",
                () -> op(7, new int[][] {{0, 0, 1}, {0, 1, 0}, {1, 0, 0}, {14, 15, 0}, {15, 15, 1}, {15, 14, 0}}));
        Runs.sentence("8 a, if b is not 0, else 0",
                () -> op(8, new int[][] {{15, 0, 0}, {15, 1, 15}, {15, 2, 15}, {15, 15, 15}, {0, 15, 0}, {0, 0, 0}}));
        Runs.sentence("9 a / 2 rounded down, and b times 8 more", () -> op(9, new int[][] {{0, 0, 0}, {1, 0, 0}, {2, 0, 1},
            {15, 0, 7}, {0, 1, 8}, {14, 1, 15}, {15, 1, 15}, {0, 2, 0}, {15, 2, 7}, {15, 15, 15}}));
        Runs.sentence("What a register is set to is cut to its width", TermsEdgesTest::registersAreCut);
        Runs.sentence("what is given out to its lowest 4 bits", TermsEdgesTest::outputsAreCut);
    }

    private static void steps() {
        Runs.sentence("all its transfers are done with the numbers as they were before it",
                TermsEdgesTest::transfersByTheNumbersBefore);
        Runs.sentence("of several to one register the last one counts", TermsEdgesTest::theLastTransferCounts);
        Runs.sentence("its output goes by the numbers before, too", TermsEdgesTest::outputByTheNumbersBefore);
    }

    private static void walks() {
        Runs.sentence("WALKED: all states that come from a FIRST state by inputs", TermsEdgesTest::allThatComeAreWalked);
        Runs.sentence("numbered from 0 in the order in which they come", TermsEdgesTest::numberedFrom0);
        Runs.sentence("from each in turn, by inputs in order", TermsEdgesTest::fromEachInTurn);
        Runs.sentence("ROOM: at most so many", TermsEdgesTest::roomJustEnough);
        Runs.sentence("with more there is no answer", TermsEdgesTest::oneMoreThanRoom);
    }

    private static void alikes() {
        Runs.sentence("TWO STATES (any ones) are ALIKE", TermsEdgesTest::anyStatesWalkedOrNot);
        Runs.sentence("when no word of inputs (the same for both) gives different outputs", TermsEdgesTest::noWordAtAll);
        Runs.sentence("else the WORD that tells them apart is a shortest one", TermsEdgesTest::theWordIsShortest);
        Runs.sentence("of these the first one as words go", TermsEdgesTest::theWordIsTheFirst);
        Runs.sentence("CLASSES: of walked states those that are alike", TermsEdgesTest::classesOfWalkedStates);
        Runs.sentence("numbered by their lowest numbers", TermsEdgesTest::classesByLowestNumbers);
    }

    private static void exceptions() {
        Runs.sentence("Of several exceptions the first one told is thrown", TermsEdgesTest::theFirstExceptionTold);
        Runs.sentence("Calls that ask of walked states or classes throw UnsupportedOperationException (first),"
                + " when there is no room", TermsEdgesTest::noRoom);
        Runs.sentence("(calls that do not ask of them are answered without room)", TermsEdgesTest::answeredWithoutRoom);
        Runs.sentence("without inputs only the first state is walked", TermsEdgesTest::withoutInputsOneIsWalked);
        Runs.sentence("(without inputs) all states are alike", TermsEdgesTest::withoutInputsAllAreAlike);
        Runs.sentence("NONE = -1: Nothing there", () -> Runs.due("NONE", SmallExhaust.NONE, -1));
    }

    private static void allOf512CallsAreAnswered() {
        SmallExhaust x = Examples.counter(0);
        for (int call = 4; call <= 510; call += 2) {
            int state = call / 2 % 4;
            Runs.more(x, "first(" + state + ")", "" + (call == 4 ? 0 : (state + 3) % 4));
            Runs.more(x, "number(" + (state + 3) % 4 + ")", "3");
        }
        Runs.more(x, "walked()", "4");
    }

    private static void upTo4Registers() {
        Runs.on(0, "register(1)", "0", "register(1)", "1", "register(1)", "2", "register(1)", "3",
                "register(1)", UOE, "count(0)", "4", "count(1)", "4");
    }

    private static void widths1To4() {
        for (int width = 1; width <= 4; width++) {
            int states = 1 << width;
            Runs.on(0, "register(" + width + ")", "0", "count(1)", "" + width,
                    "first(" + (states - 1) + ")", "0", "first(" + states + ")", IAE);
        }
        for (int width : new int[] {0, 5, 6, 12, 13, -1, -4, 33, LOW, HIGH}) {
            Runs.on(0, "register(" + width + ")", IAE, "count(0)", "0", "count(1)", "0");
        }
    }

    private static void atMost12Bits() {
        Runs.on(0, "register(4)", "0", "register(4)", "1", "register(4)", "2", "count(1)", "12", "register(1)", UOE,
                "first(4095)", "0", "first(4096)", IAE);
        Runs.on(0, "register(3)", "0", "register(3)", "1", "register(3)", "2", "register(4)", UOE, "register(3)", "3",
                "count(1)", "12");
        Runs.on(0, "register(4)", "0", "register(4)", "1", "register(2)", "2", "register(3)", UOE, "register(2)", "3",
                "count(1)", "12");
        Runs.on(0, "register(4)", "0", "register(4)", "1", "register(3)", "2", "register(2)", UOE, "register(1)", "3",
                "count(1)", "12");
    }

    private static void register0IsLowest() {
        // widths 1, 2, 3 and 4; input i gives out register i and sets it to all ones
        SmallExhaust x = Runs.on(0, "register(1)", "0", "register(2)", "1", "register(3)", "2", "register(4)", "3");
        for (int i = 0; i < 4; i++) {
            Runs.more(x, "input(0, " + i + ", -1)", "" + i, "transfer(" + i + ", " + i + ", 0, -16, -1)", "1");
        }
        int mixed = 1 + 2 * 2 + 5 * 8 + 9 * 64;
        Runs.more(x, "output(" + mixed + ", 0)", "1", "output(" + mixed + ", 1)", "2",
                "output(" + mixed + ", 2)", "5", "output(" + mixed + ", 3)", "9",
                "output(1023, 0)", "1", "output(1023, 1)", "3", "output(1023, 2)", "7", "output(1023, 3)", "15",
                "output(0, 0)", "0", "output(0, 1)", "0", "output(0, 2)", "0", "output(0, 3)", "0",
                "step(0, 0)", "1", "step(0, 1)", "6", "step(0, 2)", "56", "step(0, 3)", "960",
                "step(1023, 0)", "1023", "step(1023, 3)", "1023", "step(1024, 0)", IAE);
    }

    private static void upTo4Inputs() {
        Runs.on(0, "register(1)", "0", "input(0, 0, -1)", "0", "input(0, 0, -2)", "1", "input(0, 0, -3)", "2",
                "input(0, 0, -4)", "3", "input(0, 0, -5)", UOE, "count(2)", "4",
                "output(1, 0)", "1", "output(1, 1)", "2", "output(1, 2)", "3", "output(1, 3)", "4",
                "output(1, 4)", IAE);
    }

    private static void each8Transfers() {
        SmallExhaust x = Runs.on(0, "register(4)", "0");
        for (int input = 0; input < 4; input++) {
            Runs.more(x, "input(0, 0, 0)", "" + input);
        }
        for (int input = 0; input < 4; input++) {
            for (int n = 1; n <= 8; n++) {
                Runs.more(x, "transfer(" + input + ", 0, 0, 0, " + (-1 - n) + ")", "" + n);
            }
            Runs.more(x, "transfer(" + input + ", 0, 0, 0, -1)", UOE, "count(3)", "" + 8 * (input + 1));
        }
        Runs.more(x, "step(0, 0)", "8", "step(0, 3)", "8", "step(15, 3)", "7");
    }

    private static void operandsThatAreRegisters() {
        Runs.on(0, "input(0, 0, -1)", IAE, "input(0, -1, 0)", IAE, "register(4)", "0", "register(4)", "1",
                "register(2)", "2", "register(2)", "3", "input(0, 3, -1)", "0", "input(0, -1, 3)", "1",
                "input(0, 0, -1)", "2", "input(0, 4, -1)", IAE, "input(0, -1, 4)", IAE, "input(0, " + HIGH + ", -1)", IAE,
                "input(0, -1, " + HIGH + ")", IAE, "transfer(0, 0, 0, 3, -1)", "1", "transfer(1, 0, 0, -1, 3)", "1",
                "transfer(0, 0, 0, 4, -1)", IAE, "transfer(0, 0, 0, -1, 4)", IAE,
                "transfer(0, 0, 0, " + HIGH + ", -1)", IAE, "transfer(0, 0, 0, -1, " + HIGH + ")", IAE,
                "output(3072, 0)", "3", "output(3072, 1)", "3", "output(13, 2)", "13",
                "step(3072, 0)", "3075", "step(3072, 1)", "3075");
    }

    private static void operandsThatAreConstants() {
        Runs.on(0, "register(4)", "0", "input(0, -1, -1)", "0", "input(0, -16, -1)", "1", "input(0, -1, -16)", "2",
                "input(0, -17, -1)", IAE, "input(0, -1, -17)", IAE, "input(0, " + LOW + ", -1)", IAE,
                "input(0, -1, " + LOW + ")", IAE, "transfer(0, 0, 0, -1, -1)", "1", "transfer(1, 0, 0, -16, -1)", "1",
                "transfer(2, 0, 0, -1, -16)", "1", "transfer(0, 0, 0, -17, -1)", IAE, "transfer(0, 0, 0, -1, -17)", IAE,
                "transfer(0, 0, 0, " + LOW + ", -1)", IAE, "transfer(0, 0, 0, -1, " + LOW + ")", IAE,
                "output(9, 0)", "0", "output(9, 1)", "15", "output(9, 2)", "15",
                "step(9, 0)", "0", "step(9, 1)", "15", "step(9, 2)", "15");
        for (int c = 0; c <= 15; c++) {
            Runs.more(Examples.giving(0, -1 - c, -1), "output(6, 0)", "" + c);
        }
    }

    /** Rows of a, b and what is given out; once with registers, once with constants, and set into a register. */
    private static void op(int op, int[][] rows) {
        for (int[] row : rows) {
            int a = -1 - row[0];
            int b = -1 - row[1];
            Runs.on(0, "register(4)", "0", "register(4)", "1", "input(" + op + ", 0, 1)", "0",
                    "output(" + (row[0] + 16 * row[1]) + ", 0)", "" + row[2]);
            Runs.more(Examples.giving(op, a, b), "output(0, 0)", "" + row[2], "output(15, 0)", "" + row[2]);
            Runs.more(Examples.setting(4, op, a, b), "step(" + (9 + 32) + ", 0)", "" + (row[2] + 32));
        }
    }

    private static void registersAreCut() {
        for (int width = 1; width <= 4; width++) {
            int top = (1 << width) - 1;
            int other = 2 << width;
            String full = "step(" + (top + other) + ", 0)";
            String empty = "step(" + other + ", 0)";
            // one more than the most that it holds, and one less than 0; the register behind stays as it is
            Runs.more(Examples.setting(width, 0, 0, -2), full, "" + other, empty, "" + (other + 1));
            Runs.more(Examples.setting(width, 1, 0, -2), empty, "" + (other + top), full, "" + (other + top - 1));
            // the most and the least that expressions make: 225 and -15; and 127 of a half and b times 8
            Runs.more(Examples.setting(width, 5, -16, -16), empty, "" + (other + 1));
            Runs.more(Examples.setting(width, 1, -1, -16), empty, "" + (other + 1));
            Runs.more(Examples.setting(width, 9, -16, -16), empty, "" + (other + top));
        }
        // the highest register has none behind it to spill into
        Runs.on(0, "register(4)", "0", "register(4)", "1", "register(4)", "2", "input(0, 0, 0)", "0",
                "transfer(0, 2, 0, 2, -2)", "1", "step(4095, 0)", "255", "step(3840, 0)", "0",
                "input(0, 0, 0)", "1", "transfer(1, 2, 1, 2, -2)", "1", "step(0, 1)", "3840", "step(255, 1)", "4095");
    }

    private static void outputsAreCut() {
        Runs.more(Examples.giving(0, 0, -2), "output(14, 0)", "15", "output(15, 0)", "0");
        Runs.more(Examples.giving(1, 0, -2), "output(0, 0)", "15", "output(1, 0)", "0");
        Runs.more(Examples.giving(5, -16, -16), "output(0, 0)", "1");
        Runs.more(Examples.giving(9, -1, -3), "output(0, 0)", "0");
        // four bits even of a register of one: 1 + 1 is not cut to that one, nor is 0 - 1
        Runs.on(0, "register(1)", "0", "input(0, 0, 0)", "0", "output(1, 0)", "2", "input(0, 0, -15)", "1",
                "output(1, 1)", "15", "input(1, 0, -2)", "2", "output(0, 2)", "15");
    }

    private static void transfersByTheNumbersBefore() {
        // two registers change their numbers; a third one takes what the first had before
        Runs.on(0, "register(4)", "0", "register(4)", "1", "register(4)", "2", "input(0, 0, 0)", "0",
                "transfer(0, 0, 0, 1, -1)", "1", "transfer(0, 1, 0, 0, -1)", "2", "transfer(0, 2, 0, 0, -1)", "3",
                "step(" + (3 + 16 * 12) + ", 0)", "" + (12 + 16 * 3 + 256 * 3), "step(4095, 0)", "4095",
                "step(15, 0)", "" + 16 * 255);
    }

    private static void theLastTransferCounts() {
        // what was set before the last one does not even count as the last one's operand
        SmallExhaust x = Runs.on(0, "register(4)", "0", "register(1)", "1", "input(0, 0, 0)", "0");
        for (int n = 1; n <= 8; n++) {
            Runs.more(x, "transfer(0, 0, 0, 0, " + (-1 - n) + ")", "" + n, "step(0, 0)", "" + n,
                    "step(15, 0)", "" + (n - 1));
        }
        // the last one sets the register to itself, and so the step stays
        Runs.on(0, "register(4)", "0", "register(1)", "1", "input(0, 0, 0)", "0", "transfer(0, 0, 0, -10, -1)", "1",
                "transfer(0, 1, 0, -2, -1)", "2", "transfer(0, 0, 0, 0, -1)", "3", "step(5, 0)", "21");
    }

    private static void outputByTheNumbersBefore() {
        Runs.on(0, "register(4)", "0", "input(0, 0, -1)", "0", "transfer(0, 0, 0, 0, -2)", "1",
                "output(0, 0)", "0", "output(15, 0)", "15", "step(15, 0)", "0");
    }

    private static void allThatComeAreWalked() {
        // a first state that only stays, and one from which all states come
        Runs.on(0, "register(4)", "0", "input(0, 0, 0)", "0", "walked()", "1", "state(0)", "0", "number(1)", NONE,
                "first(15)", "0", "walked()", "1", "state(0)", "15", "number(0)", NONE);
        Runs.more(Examples.counter(0), "walked()", "4", "number(3)", "3", "first(3)", "0", "walked()", "4");
        Runs.more(Examples.full(0), "walked()", "4096", "number(4095)", "4095", "first(4095)", "0", "walked()", "4096",
                "number(4095)", "0", "state(4095)", "3822");
        // one way only: the states before the first one do not come
        Runs.on(0, "register(4)", "0", "input(0, 0, 0)", "0", "transfer(0, 0, 9, 0, -1)", "1", "first(8)", "0",
                "walked()", "5", "state(4)", "0", "number(9)", NONE, "number(3)", NONE);
    }

    private static void numberedFrom0() {
        Runs.more(Examples.counter(0), "first(2)", "0", "state(0)", "2", "state(1)", "3", "state(2)", "0",
                "state(3)", "1", "number(2)", "0", "number(3)", "1", "number(0)", "2", "number(1)", "3");
    }

    private static void fromEachInTurn() {
        Runs.more(Examples.full(0), "state(0)", "0", "state(1)", "1", "state(2)", "16", "state(3)", "256",
                "state(4)", "2", "state(5)", "17", "state(6)", "257", "state(7)", "32", "state(8)", "272",
                "state(9)", "512", "state(10)", "3", "state(4095)", "4095");
    }

    private static void roomJustEnough() {
        Runs.more(Examples.counter(4), "walked()", "4", "classes()", "4", "count(6)", "3");
        Runs.more(Examples.counter(5), "walked()", "4");
        Runs.more(Examples.full(4096), "walked()", "4096", "classes()", "4096", "count(6)", "45");
        Runs.on(1, "register(2)", "0", "input(0, 0, 0)", "0", "walked()", "1", "classes()", "1", "count(6)", "0");
    }

    private static void oneMoreThanRoom() {
        Runs.more(Examples.counter(3), "walked()", UOE, "classes()", UOE, "count(6)", NONE);
        Runs.more(Examples.counter(1), "walked()", UOE, "classes()", UOE, "count(6)", NONE);
        Runs.more(Examples.full(4095), "walked()", UOE, "classes()", UOE, "count(6)", NONE);
        // only the last input of the last state that there is room for leads to one more
        Runs.on(2, "register(2)", "0", "input(0, 0, 0)", "0", "input(0, 0, 0)", "1", "transfer(0, 0, 3, 0, -2)", "1",
                "walked()", "2", "transfer(1, 0, 5, 0, -3)", "1", "walked()", UOE, "classes()", UOE, "count(8)", NONE);
    }

    private static void anyStatesWalkedOrNot() {
        // from 0 only 0 comes; 1 and 2 are not walked
        Runs.on(1, "register(2)", "0", "input(6, 0, -2)", "0", "walked()", "1", "alike(1, 2)", "true",
                "alike(3, 1)", "true", "alike(0, 3)", "false", "word(0, 3, 0)", "0", "word(1, 2, 0)", NONE);
        // and there need not be room for those that are walked
        Runs.more(Examples.full(1), "walked()", UOE, "alike(0, 4095)", "false", "alike(4095, 4095)", "true",
                "alike(0, 256)", "false", "word(0, 256, 0)", "2", "word(0, 256, 1)", NONE);
    }

    private static void noWordAtAll() {
        // a state and itself; two that are never told apart; two whose difference is given out late
        SmallExhaust x = Examples.halves(0);
        Runs.more(x, "alike(0, 0)", "true", "alike(3, 3)", "true", "alike(0, 2)", "true", "alike(3, 1)", "true",
                "alike(0, 1)", "false", "alike(2, 3)", "false", "alike(2, 1)", "false");
        Runs.more(Examples.counter(0), "alike(0, 1)", "false", "alike(1, 0)", "false", "alike(2, 3)", "false");
        Runs.on(0, "register(1)", "0", "input(0, 0, -1)", "0", "transfer(0, 0, 4, 0, -2)", "1", "alike(0, 1)", "false");
    }

    private static void theWordIsShortest() {
        // the counter of 4 bits tells 15 alone: of 0 and 1 the second one comes there behind 14 steps
        Runs.on(0, "register(4)", "0", "input(7, 0, -16)", "0", "transfer(0, 0, 0, 0, -2)", "1",
                "word(0, 1, 0)", "0", "word(0, 1, 14)", "0", "word(0, 1, 15)", NONE,
                "word(15, 0, 0)", "0", "word(15, 0, 1)", NONE, "word(14, 13, 1)", "0", "word(14, 13, 2)", NONE);
        // input 1 tells at once what input 0 tells a step later
        Runs.on(0, "register(1)", "0", "register(1)", "1", "input(0, 1, -1)", "0", "transfer(0, 1, 0, 0, -1)", "1",
                "word(0, 1, 0)", "0", "word(0, 1, 1)", "0", "word(0, 1, 2)", NONE,
                "input(0, 0, -1)", "1", "word(0, 1, 0)", "1", "word(0, 1, 1)", NONE);
    }

    private static void theWordIsTheFirst() {
        // all four inputs tell the two apart, and none of them but the last
        Runs.on(0, "register(1)", "0", "input(0, 0, -1)", "0", "input(0, 0, -1)", "1", "input(0, 0, -1)", "2",
                "input(0, 0, -1)", "3", "word(0, 1, 0)", "0", "word(0, 1, 1)", NONE);
        Runs.on(0, "register(1)", "0", "input(0, -1, -1)", "0", "input(0, -1, -1)", "1", "input(0, -1, -1)", "2",
                "input(0, 0, -1)", "3", "word(0, 1, 0)", "3", "word(0, 1, 1)", NONE, "word(1, 0, 0)", "3");
        // of the words 1 3, 2 3 the first one: inputs 1 and 2 bring register 0 into register 1, input 3 tells that
        Runs.on(0, "register(1)", "0", "register(1)", "1", "input(0, -1, -1)", "0", "input(0, -1, -1)", "1",
                "input(0, -1, -1)", "2", "input(0, 1, -1)", "3", "transfer(1, 1, 0, 0, -1)", "1",
                "transfer(2, 1, 0, 0, -1)", "1", "word(0, 1, 0)", "1", "word(0, 1, 1)", "3", "word(0, 1, 2)", NONE);
    }

    private static void classesOfWalkedStates() {
        // one class of all, each state a class, and states that do not come make none
        Runs.on(0, "register(4)", "0", "input(0, -1, -1)", "0", "transfer(0, 0, 0, 0, -2)", "1", "walked()", "16",
                "classes()", "1", "classOf(0)", "0", "classOf(15)", "0");
        Runs.more(Examples.full(0), "classes()", "4096", "classOf(0)", "0", "classOf(4095)", "4095");
        Runs.on(0, "register(2)", "0", "input(0, 0, -1)", "0", "walked()", "1", "classes()", "1");
    }

    private static void classesByLowestNumbers() {
        SmallExhaust x = Examples.halves(0);
        Runs.more(x, "classOf(0)", "0", "classOf(1)", "1", "classOf(2)", "0", "classOf(3)", "1",
                "first(3)", "0", "classOf(0)", "0", "classOf(1)", "1", "least(0, 0, 1)", "1", "least(1, 0, 1)", "0");
        // outputs 1, 0, 0, 0 of the walked states 3, 0, 1, 2: the class of 3 is 0, though it gives out more
        Runs.more(Examples.counter(0), "first(3)", "0", "classOf(0)", "0", "classOf(1)", "1", "classOf(2)", "2",
                "classOf(3)", "3", "least(0, 0, 1)", "1", "least(3, 0, 1)", "0");
    }

    private static void theFirstExceptionTold() {
        // register: IllegalArgument, then IllegalState, then UnsupportedOperation
        Runs.on(0, "register(4)", "0", "register(4)", "1", "register(4)", "2", "register(5)", IAE, "register(0)", IAE,
                "input(0, 0, 0)", "0", "register(5)", IAE, "register(0)", IAE, "register(1)", ISE, "register(4)", ISE);
        Runs.on(0, "register(1)", "0", "register(1)", "1", "register(1)", "2", "register(1)", "3", "register(0)", IAE,
                "input(0, 0, 0)", "0", "register(5)", IAE, "register(1)", ISE);
        // input and transfer: IllegalArgument, then UnsupportedOperation
        SmallExhaust x = Runs.on(0, "register(1)", "0", "input(0, 0, 0)", "0", "input(0, 0, 0)", "1",
                "input(0, 0, 0)", "2", "input(0, 0, 0)", "3", "input(10, 0, 0)", IAE, "input(-1, 0, 0)", IAE,
                "input(0, 1, 0)", IAE, "input(0, 0, -17)", IAE, "input(0, 0, 0)", UOE);
        for (int n = 1; n <= 8; n++) {
            Runs.more(x, "transfer(2, 0, 0, 0, 0)", "" + n);
        }
        Runs.more(x, "transfer(2, 1, 0, 0, 0)", IAE, "transfer(2, 0, 10, 0, 0)", IAE, "transfer(2, 0, 0, 1, 0)", IAE,
                "transfer(2, 0, 0, 0, -17)", IAE, "transfer(4, 0, 0, 0, 0)", IAE, "transfer(2, 0, 0, 0, 0)", UOE);
        // word: IllegalArgument, then IndexOutOfBounds
        Runs.more(x, "word(2, 0, -1)", IAE, "word(0, 2, -1)", IAE, "word(-1, -1, -1)", IAE, "word(0, 1, -1)", IOOBE);
        // of those that ask of walked states, UnsupportedOperation
        Runs.more(Examples.counter(3), "state(-1)", UOE, "state(4)", UOE, "number(-1)", UOE, "number(4)", UOE,
                "way(-1, 0)", UOE, "way(0, -1)", UOE, "classOf(4)", UOE, "least(4, 0, 0)", UOE,
                "least(0, 1, 0)", UOE, "least(0, 0, 2)", UOE);
    }

    private static void noRoom() {
        Runs.more(Examples.counter(3), "walked()", UOE, "state(0)", UOE, "number(0)", UOE, "way(0, 0)", UOE,
                "classes()", UOE, "classOf(0)", UOE, "least(0, 0, 0)", UOE, "least(0, 0, 1)", UOE);
        // each of them as the first call that asks
        for (String call : new String[] {"walked()", "state(0)", "state(" + HIGH + ")", "number(0)", "number(" + LOW + ")",
            "way(0, 0)", "way(" + HIGH + ", " + LOW + ")", "classes()", "classOf(0)", "classOf(-1)", "least(0, 0, 0)",
            "least(-1, -1, -1)"}) {
            Runs.more(Examples.full(4095), call, UOE, call, UOE);
        }
    }

    private static void answeredWithoutRoom() {
        Runs.more(Examples.counter(1), "step(0, 0)", "1", "step(4, 0)", IAE, "output(3, 0)", "1", "output(0, 1)", IAE,
                "alike(0, 1)", "false", "alike(0, 4)", IAE, "word(0, 1, 2)", "0", "word(0, 1, -1)", IOOBE,
                "first(3)", "0", "first(4)", IAE, "input(0, 0, 0)", "1", "transfer(1, 0, 0, 0, 0)", "1",
                "register(1)", ISE, "count(0)", "1", "count(1)", "2", "count(2)", "2", "count(3)", "2", "count(4)", "1",
                "count(5)", "3", "walked()", UOE);
    }

    private static void withoutInputsOneIsWalked() {
        Runs.more(Examples.withoutInputs(1), "walked()", "1", "state(0)", "5", "state(1)", IOOBE, "number(5)", "0",
                "number(0)", NONE, "number(7)", NONE, "number(8)", IAE, "way(0, 0)", NONE, "way(1, 0)", IOOBE,
                "classes()", "1", "classOf(0)", "0", "classOf(1)", IOOBE, "least(0, 0, 0)", IOOBE, "count(6)", "0");
        Runs.on(1, "walked()", "1", "state(0)", "0", "state(1)", IOOBE, "number(0)", "0", "number(1)", IAE);
    }

    private static void withoutInputsAllAreAlike() {
        Runs.more(Examples.withoutInputs(1), "alike(0, 7)", "true", "alike(7, 0)", "true", "alike(5, 5)", "true",
                "alike(0, 8)", IAE, "word(0, 7, 0)", NONE, "word(0, 7, " + HIGH + ")", NONE, "word(0, 7, -1)", IOOBE);
        Runs.on(1, "register(4)", "0", "register(4)", "1", "register(4)", "2", "alike(0, 4095)", "true",
                "word(0, 4095, 0)", NONE, "alike(0, 4096)", IAE);
        Runs.on(1, "alike(0, 0)", "true", "word(0, 0, 0)", NONE, "alike(0, 1)", IAE);
    }
}
