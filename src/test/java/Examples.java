/** Small machines whose answers are easily worked out by hand. */
final class Examples {
    private Examples() {
    }

    /** Two bits; input 0 adds 1 and gives out 1 at 3. From 0 come 0, 1, 2, 3, no two of them alike. */
    static SmallExhaust counter(int room) {
        return Runs.on(room, "register(2)", "0", "input(7, 0, -4)", "0", "transfer(0, 0, 0, 0, -2)", "1");
    }

    /** The most that there can be: three registers of 4 bits; input i adds 1 to register i and gives it out. */
    static SmallExhaust full(int room) {
        return Runs.on(room, "register(4)", "0", "register(4)", "1", "register(4)", "2",
                "input(0, 0, -1)", "0", "input(0, 1, -1)", "1", "input(0, 2, -1)", "2",
                "transfer(0, 0, 0, 0, -2)", "1", "transfer(1, 1, 0, 1, -2)", "1", "transfer(2, 2, 0, 2, -2)", "1");
    }

    /** Two registers of 1 bit: input 0 turns the first one over and gives it out, input 1 the other and gives out 5. */
    static SmallExhaust halves(int room) {
        return Runs.on(room, "register(1)", "0", "register(1)", "1", "input(0, 0, -1)", "0", "input(0, -6, -1)", "1",
                "transfer(0, 0, 4, 0, -2)", "1", "transfer(1, 1, 4, 1, -2)", "1");
    }

    /** One register of 3 bits without an input: the first state is 5. */
    static SmallExhaust withoutInputs(int room) {
        return Runs.on(room, "register(3)", "0", "first(5)", "0");
    }

    /** One register of 4 bits and one input that gives out an expression of it. */
    static SmallExhaust giving(int op, int a, int b) {
        return Runs.on(0, "register(4)", "0", "input(" + op + ", " + a + ", " + b + ")", "0");
    }

    /** One register of a width, and behind it one of 2 bits; input 0 sets the first one. */
    static SmallExhaust setting(int width, int op, int a, int b) {
        return Runs.on(0, "register(" + width + ")", "0", "register(2)", "1", "input(0, 0, 0)", "0",
                "transfer(0, 0, " + op + ", " + a + ", " + b + ")", "1");
    }
}
