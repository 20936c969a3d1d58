/** The calls that are paid for. Their answers come with the letters by which Model tells them apart. */
enum Deed {
    BRACKET("Promise 6: bracket", 'b', 2, LineFields::bracket, "f", "g", "to"),
    SUM("Promise 7: sum", 's', 1, LineFields::sum, "f", "g", "to"),
    SCALE("Promise 8: scale", 'm', 1, LineFields::scale, "f", "by", "to"),
    BY_BRACKETS("Promise 9: byBrackets", 'w', 20, LineFields::byBrackets, "a", "b", "to"),
    PUSH("Promise 10: push", 'p', 6, LineFields::push, "flow", "f", "to"),
    LOG("Promise 11: log", 'l', 6, (x, flow, none, to) -> x.log(flow, to), "flow", "", "to"),
    EXP("Promise 12: exp", 'e', 5, (x, f, none, to) -> x.exp(f, to), "f", "", "to"),
    COMPOSE("Promise 13: compose", 'c', 4, LineFields::compose, "a", "b", "to"),
    INVERT("Promise 14: invert", 'i', 4, (x, a, none, to) -> x.invert(a, to), "a", "", "to"),
    POWER("Promise 15: power", 'n', 8, LineFields::power, "a", "n", "to"),
    ROOT("Promise 16: root", 'r', 8, LineFields::root, "a", "n", "to");

    interface Call {
        int on(LineFields x, int first, int second, int to);
    }

    final String section;
    final char letter;
    final int units;
    private final Call call;
    final String[] arguments;

    Deed(String section, char letter, int units, Call call, String... arguments) {
        this.section = section;
        this.letter = letter;
        this.units = units;
        this.call = call;
        this.arguments = arguments;
    }

    int on(LineFields x, int... with) {
        return call.on(x, with[0], with[1], with[2]);
    }

    int on(Model m, int... with) {
        return m.deed(letter, with[0], with[1], with[2]);
    }

    /** Whether the argument at this place is a slot; the second one of some is a number, and of some there is none. */
    boolean isSlot(int place) {
        return !arguments[place].equals("n") && !arguments[place].equals("by") && !arguments[place].isEmpty();
    }

    boolean makesFlow() {
        return this == EXP || this == COMPOSE || this == INVERT || this == POWER || this == ROOT;
    }

    boolean isOrder() {
        return this != SCALE && this != POWER && this != ROOT;
    }
}
