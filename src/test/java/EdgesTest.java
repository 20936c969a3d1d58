import java.math.BigInteger;
import java.util.ArrayList;
import java.util.List;
import java.util.function.ToLongFunction;

/** Each sentence of the promises, with the boundary cases that it names. */
public final class EdgesTest {
    private static final int P = Setup.P;
    private static final int NONE = LineFields.NONE;
    private static final int LEAST = Integer.MIN_VALUE;
    private static final int GREATEST = Integer.MAX_VALUE;
    private static final Class<IndexOutOfBoundsException> INDEX = IndexOutOfBoundsException.class;
    private static final Class<IllegalArgumentException> ARGUMENT = IllegalArgumentException.class;
    private static final Class<IllegalStateException> STATE = IllegalStateException.class;
    private static final String NO_SLOT = "Throws `IndexOutOfBoundsException`";
    private static final String WRONG_ARGUMENT = "Throws `IllegalArgumentException`";
    private static final String WRONG_STATE = "Throws `IllegalStateException`";
    private static final int[] NO_SLOTS = {-1, 6, LEAST, GREATEST};
    private static final int[] ANY_NUMBER = {0, 1, 10006, 10007, 10008, -1, -10006, -10007, -10008, GREATEST, LEAST};
    private static final int[] LEFT_BY_P = {0, 1, 10006, 0, 1, 10006, 1, 0, 10006, 1461, 8545};

    private static final Book BOOK = new Book();

    public static void main(String[] args) {
        newObject();
        cut();
        setField();
        setFlow();
        earn();
        for (Deed deed : Deed.values()) {
            BOOK.section(deed.section);
            arguments(deed);
            undone(deed);
            lowestPowers(deed);
            refusals(deed);
        }
        fieldDeeds();
        flowDeeds();
        powerAndRoot();
        append();
        clearBuffer();
        firstError();
        run();
        runUndone();
        runRefused();
        take();
        restore();
        undo();
        field();
        flow();
        value();
        clash();
        apart();
        differs();
        lacks();
        count();
        density();
        digest();
        BOOK.end("EdgesTest", title -> title.startsWith("Promise "));
    }

    // ---- promises 1 to 5

    private static void newObject() {
        BOOK.section("Promise 1: A new object");
        BOOK.sentence("Creates fields that are 0");
        LineFields x = new LineFields();
        for (int slot = 0; slot < 6; slot++) {
            BOOK.isField("field " + slot, x, slot);
            BOOK.isFlow("flow " + slot, x, slot);
        }
        BOOK.same("no error in the buffer", x.firstError(), 0);
        BOOK.same("the length of the buffer", x.clearBuffer(), 0);
        int[] counts = {5, 500, 0, 0, 0, 0, 0, 0, 0};
        for (int what = 0; what < counts.length; what++) {
            BOOK.same("count " + what, x.count(what), counts[what]);
        }
    }

    private static void undone(String what, ToLongFunction<LineFields> call) {
        BOOK.sentence("Undoable.");
        BOOK.undoable(what + ", of a new object", LineFields::new, call);
        BOOK.undoable(what + ", of a busy one", EdgesTest::busyWithRoom, call);
    }

    private static LineFields busyWithRoom() {
        LineFields x = Setup.busy();
        x.undo();
        return x;
    }

    private static void cut() {
        BOOK.section("Promise 2: cut");
        BOOK.sentence("Changes the cut");
        for (int c = 2; c <= 6; c++) {
            LineFields x = Setup.filled();
            x.cut(c);
            BOOK.same("to " + c, x.count(0), c);
            for (int slot = 0; slot < 6; slot++) {
                BOOK.isField("field " + slot + " at " + c, x, slot, upTo(c, Setup.fieldOf(slot)));
                BOOK.isFlow("flow " + slot + " at " + c, x, slot, upTo(c, Setup.flowOf(slot)));
            }
            x.cut(6);
            BOOK.isField("left out for good, field at " + c, x, 5, upTo(c, Setup.fieldOf(5)));
            BOOK.isFlow("left out for good, flow at " + c, x, 5, upTo(c, Setup.flowOf(5)));
        }
        undone("to 2", x -> x.cut(2));
        undone("to 6", x -> x.cut(6));
        undone("to what it is", x -> x.cut(5));
        BOOK.sentence("`c`: 2 to 6");
        for (int c = 2; c <= 6; c++) {
            BOOK.same("taken: " + c, new LineFields().cut(c), 5);
        }
        BOOK.sentence("Returns the previous cut.");
        LineFields x = new LineFields();
        BOOK.same("the first", x.cut(5), 5);
        BOOK.same("the same", x.cut(2), 5);
        BOOK.same("the least", x.cut(6), 2);
        BOOK.same("the greatest", x.cut(3), 6);
        BOOK.sentence(WRONG_ARGUMENT);
        for (int c : new int[] {1, 7, 0, -2, LEAST, GREATEST}) {
            BOOK.refusedAlways("cut " + c, ARGUMENT, y -> y.cut(c));
        }
    }

    private static int[] upTo(int c, int... coefficients) {
        return java.util.Arrays.copyOf(coefficients, c - 1);
    }

    private interface Setter {
        int set(LineFields x, int slot, int power, int value);
    }

    private static void setField() {
        BOOK.section("Promise 3: setField");
        BOOK.sentence("Changes a coefficient of a field.");
        LineFields x = Setup.filled();
        x.setField(3, 4, 77);
        BOOK.isField("that one", x, 3, 4, 20, 77, 10003, 55);
        BOOK.isField("not the field before", x, 2, Setup.fieldOf(2));
        BOOK.isField("not the field behind", x, 4, Setup.fieldOf(4));
        BOOK.isFlow("not the flow", x, 3, Setup.flowOf(3));
        setter(LineFields::setField, LineFields::field);
    }

    private static void setFlow() {
        BOOK.section("Promise 4: setFlow");
        BOOK.sentence("Changes a coefficient of a flow.");
        LineFields x = Setup.filled();
        x.setFlow(3, 4, 77);
        BOOK.isFlow("that one", x, 3, 1, 10, 77, -5, 331);
        BOOK.isFlow("not the flow before", x, 2, Setup.flowOf(2));
        BOOK.isFlow("not the flow behind", x, 4, Setup.flowOf(4));
        BOOK.isField("not the field", x, 3, Setup.fieldOf(3));
        setter(LineFields::setFlow, LineFields::flow);
    }

    private interface Getter {
        int get(LineFields x, int slot, int power);
    }

    private static void setter(Setter setter, Getter getter) {
        undone("to another", x -> setter.set(x, 0, 2, 5));
        undone("to what it is", x -> setter.set(x, 0, 5, getter.get(x, 0, 5)));
        BOOK.sentence("`slot`: 0 to 5");
        for (int slot = 0; slot <= 5; slot++) {
            LineFields x = new LineFields();
            setter.set(x, slot, 2, 9);
            BOOK.same("taken: " + slot, getter.get(x, slot, 2), 9);
        }
        BOOK.sentence("`power`: 2 to the cut");
        for (int c = 2; c <= 6; c++) {
            for (int power = 2; power <= c; power++) {
                LineFields x = Setup.cutAt(c);
                setter.set(x, 1, power, 9);
                BOOK.same("taken: " + power + ", cut " + c, getter.get(x, 1, power), 9);
            }
            int cut = c;
            for (int power : new int[] {1, c + 1}) {
                BOOK.refused("not taken: " + power + ", cut " + c, () -> Setup.cutAt(cut), INDEX,
                        x -> setter.set(x, 1, power, 9));
            }
        }
        BOOK.sentence("`value`: any number");
        for (int i = 0; i < ANY_NUMBER.length; i++) {
            LineFields x = new LineFields();
            setter.set(x, 0, 2, ANY_NUMBER[i]);
            BOOK.same("taken: " + ANY_NUMBER[i], getter.get(x, 0, 2), LEFT_BY_P[i]);
        }
        BOOK.sentence("Returns the previous coefficient.");
        LineFields x = new LineFields();
        BOOK.same("0 at first", setter.set(x, 0, 2, -1), 0);
        BOOK.same("-1 is told as 10006", setter.set(x, 0, 2, P + 3), 10006);
        BOOK.same("what is left by P", setter.set(x, 0, 2, 0), 3);
        BOOK.sentence(NO_SLOT);
        for (int slot : NO_SLOTS) {
            BOOK.refusedAlways("slot " + slot, INDEX, y -> setter.set(y, slot, 2, 1));
        }
        for (int power : new int[] {1, 0, -1, 7, LEAST, GREATEST}) {
            BOOK.refusedAlways("power " + power, INDEX, y -> setter.set(y, 0, power, 1));
        }
    }

    /** Has so much in the purse, which is more than 99500. */
    private static LineFields withMuch(int money) {
        LineFields x = Setup.rich();
        x.undo();
        x.earn(money - 99500);
        return x;
    }

    private static void earn() {
        BOOK.section("Promise 5: earn");
        BOOK.sentence("Puts money into the purse.");
        LineFields x = new LineFields();
        x.earn(7);
        BOOK.same("7", x.count(1), 507);
        BOOK.same("nothing is paid", x.count(4), 0);
        BOOK.same("nothing is done for pay", x.count(5), 0);
        undone("1", y -> y.earn(1));
        undone("1000", y -> y.earn(1000));
        BOOK.sentence("`money`: 1 to 1000");
        BOOK.same("taken: 1", new LineFields().earn(1), 501);
        BOOK.same("taken: 1000", new LineFields().earn(1000), 1500);
        BOOK.sentence("Returns what is in the purse then.");
        LineFields paid = new LineFields();
        paid.sum(0, 0, 0);
        BOOK.same("with less in it for what was paid", paid.earn(2), 497);
        BOOK.same("with nothing in it before", Setup.withPurse(4, 0).earn(3), 3);
        BOOK.sentence(WRONG_ARGUMENT);
        for (int money : new int[] {0, 1001, -1, LEAST, GREATEST}) {
            BOOK.refusedAlways("money " + money, ARGUMENT, y -> y.earn(money));
        }
        BOOK.sentence(WRONG_STATE);
        BOOK.same("100000 by 1", withMuch(99999).earn(1), 100000);
        BOOK.same("100000 by 500", withMuch(99501).earn(499), 100000);
        BOOK.same("100000 by 1000", with99000().earn(1000), 100000);
        BOOK.refused("100001 by 1", () -> withMuch(100000), STATE, y -> y.earn(1));
        BOOK.refused("100001 by 2", () -> withMuch(99999), STATE, y -> y.earn(2));
        BOOK.refused("100001 by 1000", () -> {
            LineFields y = with99000();
            y.earn(1);
            return y;
        }, STATE, y -> y.earn(1000));
    }

    private static LineFields with99000() {
        LineFields x = Setup.rich();
        x.undo();
        x.undo();
        x.earn(500);
        return x;
    }

    // ---- promises 6 to 16, what they have in common

    private static void arguments(Deed deed) {
        for (int place = 0; place < 3; place++) {
            if (deed.isSlot(place)) {
                BOOK.sentence("`" + deed.arguments[place] + "`: the slot of ");
                for (int slot = 0; slot <= 5; slot++) {
                    int[] with = {1, 2, 3};
                    with[place] = slot;
                    asModel(deed, "taken: " + slot, with);
                }
            }
        }
    }

    private static void asModel(Deed deed, String what, int... with) {
        LineFields x = Setup.filled();
        Model m = Setup.filledModel();
        BOOK.same(what, deed.on(x, with), deed.on(m, with));
        BOOK.same(what + ", and what comes of it", x.digest(), m.digest());
    }

    private static void undone(Deed deed) {
        undone("with slots that differ", x -> deed.on(x, 1, 2, 3));
        undone("into the slot from which it reckons", x -> deed.on(x, 1, 1, 1));
    }

    private static void lowestPowers(Deed deed) {
        BOOK.sentence("Returns the lowest power");
        BOOK.same("none", deed.on(new LineFields(), 0, 1, 2), NONE);
        for (int k = 2; k <= 6; k++) {
            LineFields x = Setup.cutAt(6);
            x.setField(0, k, 3);
            x.setFlow(0, k, 3);
            x.setField(1, 2, deed == Deed.BRACKET ? 1 : 0);
            int due = deed != Deed.BRACKET ? k : k == 2 || k == 6 ? NONE : k + 1;
            BOOK.same("of " + k, deed == Deed.PUSH ? deed.on(x, 1, 0, 2) : deed.on(x, 0, 1, 2), due);
        }
        LineFields y = Setup.cutAt(6);
        y.setField(2, 6, 1);
        y.setFlow(2, 6, 1);
        BOOK.same("not that of what was in the slot", deed.on(y, 0, 1, 2), NONE);
        BOOK.same("in the slot of the result is 0 or x", y.field(2, 6) * y.flow(2, 6), 0);
    }

    private static void refusals(Deed deed) {
        BOOK.sentence(NO_SLOT);
        for (int place = 0; place < 3; place++) {
            if (deed.isSlot(place)) {
                for (int slot : NO_SLOTS) {
                    int[] with = {1, 2, 3};
                    with[place] = slot;
                    BOOK.refusedAlways(deed.arguments[place] + " is " + slot, INDEX, x -> deed.on(x, with));
                }
            }
        }
        BOOK.sentence(WRONG_STATE);
        for (int c = 2; c <= 6; c++) {
            int cut = c;
            int cost = c * deed.units;
            LineFields x = Setup.withPurse(c, cost);
            int done = x.count(5);
            BOOK.same("just its cost is enough, cut " + c, deed.on(x, 0, 1, 2), NONE);
            BOOK.same("nothing is left then, cut " + c, x.count(1), 0);
            BOOK.same("that is done for pay, cut " + c, x.count(5), done + 1);
            BOOK.refused("one less is not, cut " + c, () -> Setup.withPurse(cut, cost - 1), STATE,
                    y -> deed.on(y, 0, 1, 2));
        }
    }

    // ---- promises 6 to 16, each by itself

    private static void fieldDeeds() {
        BOOK.section("Promise 6: bracket");
        BOOK.sentence("Takes a bracket.");
        asModel(Deed.BRACKET, "of two", 4, 5, 0);
        asModel(Deed.BRACKET, "of one with itself", 4, 4, 0);
        asModel(Deed.BRACKET, "into the first", 4, 5, 4);
        asModel(Deed.BRACKET, "into the second", 4, 5, 5);
        BOOK.section("Promise 7: sum");
        BOOK.sentence("Adds two fields.");
        asModel(Deed.SUM, "of two", 4, 5, 0);
        asModel(Deed.SUM, "of one with itself", 4, 4, 0);
        asModel(Deed.SUM, "into itself", 4, 4, 4);
        BOOK.section("Promise 8: scale");
        BOOK.sentence("Multiplies a field.");
        asModel(Deed.SCALE, "by 3", 4, 3, 0);
        asModel(Deed.SCALE, "into itself", 4, 3, 4);
        BOOK.sentence("`by`: any number");
        for (int i = 0; i < ANY_NUMBER.length; i++) {
            LineFields x = new LineFields();
            x.setField(0, 2, 1);
            x.scale(0, ANY_NUMBER[i], 1);
            BOOK.same("taken: " + ANY_NUMBER[i], x.field(1, 2), LEFT_BY_P[i]);
            asModel(Deed.SCALE, "a whole field by " + ANY_NUMBER[i], 5, ANY_NUMBER[i], 2);
        }
        BOOK.section("Promise 9: byBrackets");
        BOOK.sentence("Makes the field of two fields by brackets");
        asModel(Deed.BY_BRACKETS, "of two", 4, 5, 0);
        asModel(Deed.BY_BRACKETS, "of one with itself", 4, 4, 0);
        asModel(Deed.BY_BRACKETS, "into the first", 4, 5, 4);
        asModel(Deed.BY_BRACKETS, "into the second", 4, 5, 5);
        BOOK.section("Promise 10: push");
        BOOK.sentence("Pushes a field by a flow.");
        asModel(Deed.PUSH, "by the flow of another slot", 5, 0, 3);
        asModel(Deed.PUSH, "by the flow of the slot of the result", 4, 0, 4);
        asModel(Deed.PUSH, "into itself", 0, 5, 5);
        BOOK.section("Promise 11: log");
        BOOK.sentence("Takes the logarithm of a flow.");
        asModel(Deed.LOG, "into another slot", 5, 0, 0);
        asModel(Deed.LOG, "into the field of its slot", 5, 0, 5);
    }

    private static void flowDeeds() {
        BOOK.section("Promise 12: exp");
        BOOK.sentence("Takes the exponential of a field.");
        asModel(Deed.EXP, "into another slot", 5, 0, 0);
        asModel(Deed.EXP, "into the flow of its slot", 5, 0, 5);
        BOOK.section("Promise 13: compose");
        BOOK.sentence("Composes two flows: first a, then b.");
        asModel(Deed.COMPOSE, "two", 4, 5, 0);
        asModel(Deed.COMPOSE, "the other way", 5, 4, 0);
        asModel(Deed.COMPOSE, "one with itself", 4, 4, 0);
        asModel(Deed.COMPOSE, "into the first", 4, 5, 4);
        asModel(Deed.COMPOSE, "into the second", 4, 5, 5);
        BOOK.section("Promise 14: invert");
        BOOK.sentence("Inverts a flow.");
        asModel(Deed.INVERT, "into another slot", 4, 0, 5);
        asModel(Deed.INVERT, "into itself", 4, 0, 4);
    }

    private static void powerAndRoot() {
        BOOK.section(Deed.POWER.section);
        BOOK.sentence("Raises a flow to a power.");
        asModel(Deed.POWER, "into another slot", 4, 3, 5);
        asModel(Deed.POWER, "into itself", 4, 3, 4);
        BOOK.sentence("`n`: -5000 to 5000");
        for (int n : new int[] {-5000, -4999, -2, -1, 0, 1, 2, 4999, 5000}) {
            asModel(Deed.POWER, "taken: " + n, 5, n, 2);
        }
        BOOK.sentence(WRONG_ARGUMENT);
        for (int n : new int[] {-5001, 5001, -10007, 10007, LEAST, GREATEST}) {
            BOOK.refusedAlways("n is " + n, ARGUMENT, x -> x.power(0, n, 1));
        }
        BOOK.section(Deed.ROOT.section);
        BOOK.sentence("Takes a root of a flow.");
        asModel(Deed.ROOT, "into another slot", 4, 3, 5);
        asModel(Deed.ROOT, "into itself", 4, 3, 4);
        BOOK.sentence("`n`: 1 to 5000");
        for (int n : new int[] {1, 2, 3, 4999, 5000}) {
            asModel(Deed.ROOT, "taken: " + n, 5, n, 2);
        }
        BOOK.sentence(WRONG_ARGUMENT);
        for (int n : new int[] {0, -1, 5001, 10007, LEAST, GREATEST}) {
            BOOK.refusedAlways("n is " + n, ARGUMENT, x -> x.root(0, n, 1));
        }
    }

    // ---- promises 17 to 20

    private static void append() {
        BOOK.section("Promise 17: append");
        BOOK.sentence("Appends a character to the buffer.");
        LineFields x = Setup.typed("e1>");
        x.append('2');
        BOOK.same("behind the others", x.run(), 1);
        BOOK.notUndoable("and", LineFields::new, y -> y.append('e'));
        BOOK.sentence("`code`: the character code, 33 to 126");
        BOOK.same("taken: 33", new LineFields().append(33), 1);
        BOOK.same("taken: 126", new LineFields().append(126), 1);
        BOOK.same("33 and 126 stand as they are", Setup.typed("!~").digest(), digestOf(Setup.typed("!~"), "!~"));
        BOOK.sentence("Returns the new length of the buffer.");
        LineFields full = new LineFields();
        for (int length = 1; length <= 60; length++) {
            BOOK.same("length " + length, full.append(33 + length), length);
        }
        full.clearBuffer();
        BOOK.same("after it was cleared", full.append('b'), 1);
        BOOK.sentence(WRONG_ARGUMENT);
        for (int code : new int[] {32, 127, 0, -1, 33 + 128, 33 + 256, 33 + 65536, LEAST, GREATEST}) {
            BOOK.refusedAlways("code " + code, ARGUMENT, y -> y.append(code));
        }
        BOOK.sentence(WRONG_STATE);
        BOOK.same("with 59 it is taken", Setup.typed("b".repeat(59)).append('b'), 60);
        BOOK.refused("with 60 it is not", () -> Setup.typed("b".repeat(60)), STATE, y -> y.append('b'));
        LineFields run = Setup.typed(Setup.FULL_PROGRAM);
        run.run();
        BOOK.same("with 60 that were run it is taken", run.append('b'), 1);
    }

    private static void clearBuffer() {
        BOOK.section("Promise 18: clearBuffer");
        BOOK.sentence("Clears the buffer.");
        LineFields x = Setup.typed("e0>1x");
        x.clearBuffer();
        BOOK.same("nothing is in it", x.digest(), new LineFields().digest());
        Setup.type(x, "e1>2");
        BOOK.same("what comes then stands at the beginning", x.run(), 1);
        BOOK.notUndoable("and", LineFields::new, LineFields::clearBuffer);
        BOOK.sentence("Returns the length that it had.");
        BOOK.same("0", new LineFields().clearBuffer(), 0);
        BOOK.same("1", Setup.typed("b").clearBuffer(), 1);
        BOOK.same("60", Setup.typed("b".repeat(60)).clearBuffer(), 60);
        LineFields twice = Setup.typed("bb");
        twice.clearBuffer();
        BOOK.same("0 when it was just cleared", twice.clearBuffer(), 0);
    }

    private static void firstError() {
        BOOK.section("Promise 19: firstError");
        BOOK.sentence("Finds the first syntax error of the buffer.");
        BOOK.same("the first of two", Setup.typed("e0x1x").firstError(), 2);
        LineFields x = Setup.typed("e0x1x");
        long before = x.digest();
        x.firstError();
        BOOK.same("nothing is changed", x.digest(), before);
        BOOK.sentence("Returns the index of the first character");
        BOOK.same("0 for an empty buffer", new LineFields().firstError(), 0);
        BOOK.same("0 for the first of one", Setup.typed("z").firstError(), 0);
        BOOK.same("1 for none of one", Setup.typed("p").firstError(), 1);
        BOOK.same("59 for the last of 60", Setup.typed(Setup.FULL_PROGRAM.substring(0, 59) + "x").firstError(), 59);
        BOOK.same("60 for none of 60", Setup.typed(Setup.FULL_PROGRAM).firstError(), 60);
        BOOK.same("0 for the first of 60", Setup.typed("1" + Setup.FULL_PROGRAM.substring(1)).firstError(), 0);
    }

    private static LineFields typedInto(LineFields x, String text) {
        Setup.type(x, text);
        return x;
    }

    private static void run() {
        BOOK.section("Promise 20: run");
        BOOK.sentence("Carries out the program in the buffer");
        LineFields x = typedInto(Setup.filled(), "b01>2;s22>2;e2>0");
        x.run();
        Model m = Setup.filledModel();
        m.deed('b', 0, 1, 2);
        m.deed('s', 2, 2, 2);
        m.deed('e', 2, 2, 0);
        for (int power = 2; power <= 6; power++) {
            BOOK.same("order by order, power " + power, x.flow(0, power), m.coefficient(true, 0, power));
        }
        BOOK.same("clears the buffer", x.clearBuffer(), 0);
        LineFields refused = typedInto(Setup.withPurse(5, 14), "b01>2;s00>0;b01>2;s00>0");
        BOOK.same("up to the first that would be refused", refused.run(), 1);
        BOOK.same("a cheaper one behind it is not carried out", refused.count(1), 4);
        BOOK.same("clears the buffer when one is refused", refused.clearBuffer(), 0);
        BOOK.sentence("Returns how many orders");
        BOOK.same("0 of 1", typedInto(Setup.withPurse(5, 4), "s00>0").run(), 0);
        BOOK.same("1 of 1", typedInto(Setup.withPurse(5, 5), "s00>0").run(), 1);
        BOOK.same("1 of 2", typedInto(Setup.withPurse(5, 9), "s00>0;s00>0").run(), 1);
        BOOK.same("2 of 2", typedInto(Setup.withPurse(5, 10), "s00>0;s00>0").run(), 2);
        BOOK.same("12 of 12", Setup.typed(Setup.FULL_PROGRAM).run(), 12);
        BOOK.same("5 of 9", typedInto(Setup.withPurse(2, 11), "s00>0" + ";s00>0".repeat(8)).run(), 5);
        for (Deed deed : Deed.values()) {
            if (deed.isOrder()) {
                String order = deed.letter + (deed.isSlot(1) ? "00" : "0") + ">0";
                int cost = 3 * deed.units;
                BOOK.same("1 of " + deed + " that just pays", typedInto(Setup.withPurse(3, cost), order).run(), 1);
                BOOK.same("0 of " + deed + " that lacks one", typedInto(Setup.withPurse(3, cost - 1), order).run(), 0);
            }
        }
    }

    private static void runUndone() {
        BOOK.sentence("Undoable, as one call");
        BOOK.undoable("twelve orders", () -> Setup.typed(Setup.FULL_PROGRAM), LineFields::run, LineFields::clearBuffer);
        BOOK.undoable("one order", () -> typedInto(busyCleared(), "w01>2"), LineFields::run,
                LineFields::clearBuffer);
        BOOK.undoable("no order", () -> typedInto(Setup.withPurse(5, 4), "s00>0"), LineFields::run,
                LineFields::clearBuffer);
        BOOK.undoable("some orders", () -> typedInto(Setup.withPurse(5, 14), "b00>0;s00>0"), LineFields::run,
                LineFields::clearBuffer);
    }

    private static LineFields busyCleared() {
        LineFields x = busyWithRoom();
        x.clearBuffer();
        return x;
    }

    private static void runRefused() {
        BOOK.sentence(WRONG_ARGUMENT);
        for (String text : new String[] {"", "b", "b0", "b00", "b00>", "e", "e0", "e0>", "e0>0;", "e0>0;e", "e0>00",
            "e0>0;;e0>0", "x", "e0>6", "E0>0", "m00>0", "e0>0;x"}) {
            BOOK.refused("\"" + text + "\"", () -> typedInto(busyCleared(), text), ARGUMENT, LineFields::run);
        }
        BOOK.refused("sixty characters that are not whole", () -> Setup.typed("e0>1;".repeat(12)), ARGUMENT,
                LineFields::run);
        BOOK.refused("a program whose order would be refused, but is not whole",
                () -> typedInto(Setup.withPurse(5, 0), "e0>0;"), ARGUMENT, LineFields::run);
    }

    // ---- promises 21 to 23

    private static void take() {
        BOOK.section("Promise 21: take");
        BOOK.sentence("Takes a snapshot");
        LineFields x = Setup.filled();
        x.take(0);
        x.setField(0, 2, 50);
        x.take(0);
        x.setField(0, 2, 60);
        x.take(1);
        BOOK.same("in place of the one before", x.restore(0) + x.field(0, 2), 56);
        BOOK.same("not in place of the other", x.restore(1) + x.field(0, 2), 66);
        BOOK.notUndoable("and", LineFields::new, y -> y.take(0));
        BOOK.sentence("`snapshot`: 0 or 1");
        for (int snapshot : new int[] {0, 1}) {
            LineFields y = new LineFields();
            BOOK.same("taken: " + snapshot, y.take(snapshot), 0);
            BOOK.same("there is one then, " + snapshot, y.count(7), 1);
            BOOK.refused("the other is none, " + snapshot, () -> {
                LineFields z = new LineFields();
                z.take(snapshot);
                return z;
            }, STATE, z -> z.restore(1 - snapshot));
        }
        BOOK.sentence("Returns how many fields are not 0.");
        LineFields y = Setup.cutAt(6);
        BOOK.same("0 fields", y.take(0), 0);
        for (int slot = 0; slot < 6; slot++) {
            y.setField(slot, 2 + slot % 5, 10006);
            BOOK.same("fields: " + (slot + 1), y.take(0), slot + 1);
        }
        BOOK.sentence(NO_SLOT);
        for (int snapshot : new int[] {-1, 2, LEAST, GREATEST}) {
            BOOK.refusedAlways("snapshot " + snapshot, INDEX, z -> z.take(snapshot));
        }
    }

    private static void restore() {
        BOOK.section("Promise 22: restore");
        BOOK.sentence("Restores a snapshot, which stays.");
        LineFields x = Setup.busy();
        x.restore(0);
        for (int slot = 0; slot < 6; slot++) {
            BOOK.isField("field " + slot, x, slot, Setup.fieldOf(slot));
            BOOK.isFlow("flow " + slot, x, slot, Setup.flowOf(slot));
        }
        BOOK.same("the cut", x.count(0), 6);
        x.setField(0, 2, 50);
        x.setFlow(0, 2, 50);
        x.restore(0);
        BOOK.isField("again, the field", x, 0, Setup.fieldOf(0));
        BOOK.isFlow("again, the flow", x, 0, Setup.flowOf(0));
        BOOK.same("both stay", x.count(7), 2);
        BOOK.sentence("Undoable.");
        BOOK.undoable("of a busy one", EdgesTest::busyWithRoom, y -> y.restore(0));
        BOOK.undoable("that changes nothing", () -> {
            LineFields y = new LineFields();
            y.take(1);
            return y;
        }, y -> y.restore(1));
        BOOK.sentence("`snapshot`: 0 or 1");
        BOOK.same("taken: 0", Setup.busy().restore(0), 6);
        BOOK.same("taken: 1", Setup.busy().restore(1), 6);
        BOOK.sentence("Returns how many fields are not 0 then.");
        LineFields y = new LineFields();
        y.take(0);
        y.setField(0, 2, 1);
        y.take(1);
        BOOK.same("0 then, 1 before", y.restore(0), 0);
        BOOK.same("1 then, 0 before", y.restore(1), 1);
        BOOK.sentence(NO_SLOT);
        for (int snapshot : new int[] {-1, 2, LEAST, GREATEST}) {
            BOOK.refusedAlways("snapshot " + snapshot, INDEX, z -> z.restore(snapshot));
        }
        BOOK.sentence(WRONG_STATE);
        BOOK.refused("0 of a new object", LineFields::new, STATE, z -> z.restore(0));
        BOOK.refused("1 of a new object", LineFields::new, STATE, z -> z.restore(1));
        BOOK.refused("0 when just 1 is taken", Setup::poor, STATE, z -> z.restore(0));
    }

    private static void undo() {
        BOOK.section("Promise 23: undo");
        BOOK.sentence("Restores the latest saved state");
        LineFields x = new LineFields();
        x.setField(0, 2, 1);
        x.setField(0, 2, 2);
        x.undo();
        BOOK.same("the latest", x.field(0, 2), 1);
        x.undo();
        BOOK.same("it was dropped", x.field(0, 2), 0);
        BOOK.same("all is as at first", x.digest(), new LineFields().digest());
        BOOK.sentence("Returns how many saved states are left.");
        LineFields y = Setup.busy();
        for (int left = 5; left >= 0; left--) {
            BOOK.same("left: " + left, y.undo(), left);
        }
        BOOK.sentence(WRONG_STATE);
        BOOK.refused("a new object", LineFields::new, STATE, LineFields::undo);
        BOOK.refused("one that was undone six times", () -> {
            LineFields z = Setup.busy();
            for (int i = 0; i < 6; i++) {
                z.undo();
            }
            return z;
        }, STATE, LineFields::undo);
        BOOK.refused("with what is not undoable alone", () -> {
            LineFields z = Setup.typed("b0");
            z.take(0);
            z.clearBuffer();
            return z;
        }, STATE, LineFields::undo);
    }

    // ---- promises 24 to 33

    private static void getter(Getter getter, int ofX, int[] slot5) {
        BOOK.sentence("`slot`: 0 to 5");
        LineFields x = Setup.filled();
        Model m = Setup.filledModel();
        for (int slot = 0; slot <= 5; slot++) {
            BOOK.same("taken: " + slot, getter.get(x, slot, 2), m.coefficient(ofX == 1, slot, 2));
        }
        BOOK.sentence("`power`: 0 to 6");
        BOOK.same("taken: 0", getter.get(x, 5, 0), 0);
        BOOK.same("taken: 1", getter.get(x, 5, 1), ofX);
        for (int power = 2; power <= 6; power++) {
            BOOK.same("taken: " + power, getter.get(x, 5, power), Math.floorMod(slot5[power - 2], P));
        }
        BOOK.sentence("Returns the coefficient (");
        for (int c = 2; c <= 6; c++) {
            LineFields y = Setup.filled();
            y.cut(c);
            BOOK.same("of the power 0, cut " + c, getter.get(y, 5, 0), 0);
            BOOK.same("of the power 1, cut " + c, getter.get(y, 5, 1), ofX);
            BOOK.same("of the cut " + c, getter.get(y, 5, c), Math.floorMod(slot5[c - 2], P));
            for (int power = c + 1; power <= 6; power++) {
                BOOK.same("of the power " + power + ", cut " + c, getter.get(y, 5, power), 0);
            }
        }
        BOOK.sentence(NO_SLOT);
        for (int slot : NO_SLOTS) {
            BOOK.refusedAlways("slot " + slot, INDEX, y -> getter.get(y, slot, 2));
        }
        for (int power : new int[] {-1, 7, LEAST, GREATEST}) {
            BOOK.refusedAlways("power " + power, INDEX, y -> getter.get(y, 0, power));
        }
    }

    private static void field() {
        BOOK.section("Promise 24: field");
        BOOK.sentence("Returns a coefficient of a field.");
        BOOK.same("that of the field, not of the flow", Setup.filled().field(2, 3), 12);
        getter(LineFields::field, 0, Setup.fieldOf(5));
    }

    private static void flow() {
        BOOK.section("Promise 25: flow");
        BOOK.sentence("Returns a coefficient of a flow.");
        BOOK.same("that of the flow, not of the field", Setup.filled().flow(2, 3), 5);
        getter(LineFields::flow, 1, Setup.flowOf(5));
    }

    private static void value() {
        BOOK.section("Promise 26: value");
        BOOK.sentence("Returns the value of a polynomial.");
        BOOK.same("2x2 at 3", multipleOfSquare(2).value(0, 1, 3), 18);
        BOOK.sentence("`what`: 0: of a field; 1: of a flow");
        BOOK.same("taken: 0", multipleOfSquare(2).value(0, 1, 2), 8);
        BOOK.same("taken: 1", multipleOfSquare(2).value(1, 1, 2), 2);
        BOOK.sentence("`slot`: 0 to 5");
        LineFields x = Setup.filled();
        Model m = Setup.filledModel();
        for (int slot = 0; slot <= 5; slot++) {
            BOOK.same("taken: " + slot + ", field", x.value(0, slot, 7), m.value(0, slot, 7));
            BOOK.same("taken: " + slot + ", flow", x.value(1, slot, 7), m.value(1, slot, 7));
        }
        BOOK.sentence("`x`: any number");
        for (int i = 0; i < ANY_NUMBER.length; i++) {
            BOOK.same("taken: " + ANY_NUMBER[i], new LineFields().value(1, 0, ANY_NUMBER[i]), LEFT_BY_P[i]);
            BOOK.same("as what it leaves: " + ANY_NUMBER[i], x.value(0, 5, ANY_NUMBER[i]), x.value(0, 5, LEFT_BY_P[i]));
        }
        BOOK.sentence("Returns its value for this x, modulo P.");
        BOOK.same("10006 x2 at 10006", multipleOfSquare(10006).value(0, 1, 10006), 10006);
        BOOK.same("10006 x2 at 1", multipleOfSquare(10006).value(0, 1, 1), 10006);
        BOOK.same("x + x2 at -1 is P", xAndSquare().value(1, 0, -1), 0);
        BOOK.same("x + x2 at 0", xAndSquare().value(1, 0, 0), 0);
        BOOK.sentence(NO_SLOT);
        for (int slot : NO_SLOTS) {
            BOOK.refusedAlways("slot " + slot, INDEX, y -> y.value(0, slot, 1));
            BOOK.refusedAlways("slot " + slot + " of flows", INDEX, y -> y.value(1, slot, 1));
        }
        BOOK.sentence(WRONG_ARGUMENT);
        for (int what : new int[] {-1, 2, LEAST, GREATEST}) {
            BOOK.refusedAlways("what is " + what, ARGUMENT, y -> y.value(what, 0, 1));
        }
    }

    /** Field 1 is this multiple of x2. */
    private static LineFields multipleOfSquare(int coefficient) {
        LineFields x = new LineFields();
        x.setField(1, 2, coefficient);
        return x;
    }

    /** Flow 0 is x + x2. */
    private static LineFields xAndSquare() {
        LineFields x = new LineFields();
        x.setFlow(0, 2, 1);
        return x;
    }

    private interface Look {
        int at(LineFields x, int first, int second);
    }

    private interface ModelLook {
        int at(Model m, int first, int second);
    }

    /** Each slot in each place, as the model tells; and those that there are not. */
    private static void twoSlots(String first, String second, Look look, ModelLook due) {
        LineFields x = Setup.busy();
        x.restore(1);
        Model m = busyModel();
        BOOK.sentence("`" + first + "`: the slot of a ");
        for (int slot = 0; slot <= 5; slot++) {
            BOOK.same("taken: " + slot, look.at(x, slot, 1), due.at(m, slot, 1));
        }
        BOOK.sentence("`" + second + "`: the slot of a ");
        for (int slot = 0; slot <= 5; slot++) {
            BOOK.same("taken: " + slot, look.at(x, 1, slot), due.at(m, 1, slot));
        }
        BOOK.sentence(NO_SLOT);
        for (int slot : NO_SLOTS) {
            BOOK.refusedAlways(first + " is " + slot, INDEX, y -> look.at(y, slot, 0));
            BOOK.refusedAlways(second + " is " + slot, INDEX, y -> look.at(y, 0, slot));
        }
    }

    /** As Setup.busy() was when it took its snapshot 1. */
    private static Model busyModel() {
        Model m = Setup.filledModel();
        m.cut(5);
        m.deed('b', 0, 1, 2);
        m.deed('e', 3, 3, 4);
        return m;
    }

    private static void clash() {
        BOOK.section("Promise 27: clash");
        BOOK.sentence("Tells how two fields lie to each other.");
        LineFields x = Setup.filled();
        x.clash(0, 1);
        BOOK.same("no bracket is counted", x.count(6), 0);
        BOOK.same("nothing is paid for it", x.count(1), 500);
        twoSlots("f", "g", LineFields::clash, Model::clash);
        BOOK.sentence("Returns the lowest power of their bracket; NONE if it is 0.");
        for (int k = 2; k <= 6; k++) {
            LineFields y = Setup.cutAt(6);
            y.setField(0, 2, 1);
            y.setField(1, k, 1);
            BOOK.same("of x2 and the power " + k, y.clash(0, 1), k == 2 || k == 6 ? NONE : k + 1);
            BOOK.same("of the power " + k + " and x2", y.clash(1, 0), k == 2 || k == 6 ? NONE : k + 1);
            BOOK.same("with itself, " + k, y.clash(1, 1), NONE);
            BOOK.same("with 0, " + k, y.clash(1, 2), NONE);
            y.cut(Math.max(k, 2));
            BOOK.same("cut at " + k, y.clash(0, 1), NONE);
        }
        BOOK.same("of 0 and 0", new LineFields().clash(0, 0), NONE);
    }

    private static void apart() {
        BOOK.section("Promise 28: apart");
        BOOK.sentence("Tells how far two flows commute.");
        LineFields x = Setup.filled();
        x.apart(0, 1);
        BOOK.same("nothing is paid for it", x.count(1), 500);
        twoSlots("a", "b", LineFields::apart, Model::apart);
        BOOK.sentence("Returns the lowest power in which first a");
        for (int k = 2; k <= 6; k++) {
            LineFields y = Setup.cutAt(6);
            y.setFlow(0, 2, 1);
            y.setFlow(1, k, 1);
            BOOK.same("of x + x2 and x and the power " + k, y.apart(0, 1), k == 2 || k == 6 ? NONE : k + 1);
            BOOK.same("the other way, " + k, y.apart(1, 0), k == 2 || k == 6 ? NONE : k + 1);
            BOOK.same("with itself, " + k, y.apart(1, 1), NONE);
            BOOK.same("with x, " + k, y.apart(1, 2), NONE);
            y.cut(k);
            BOOK.same("cut at " + k, y.apart(0, 1), NONE);
        }
        BOOK.same("of x and x", new LineFields().apart(0, 0), NONE);
    }

    private static void differs() {
        BOOK.section("Promise 29: differs");
        BOOK.sentence("Tells where the second way would differ.");
        LineFields x = Setup.filled();
        x.differs(0, 1, 5);
        BOOK.same("nothing is paid for it", x.count(1), 500);
        BOOK.same("no bracket is counted", x.count(6), 0);
        twoSlots("a", "b", (y, a, b) -> y.differs(a, b, 3), (m, a, b) -> m.differs(a, b, 3));
        BOOK.sentence("`k`: how much of the second way");
        // with a = x2 + x3 and b = x2, w is -x4, [a, w] is -2x5 - x6, [b, w] is -2x5 and [b, [a, w]] is -6x6
        LineFields y = Setup.cutAt(6);
        Setup.putField(y, 0, 1, 1);
        Setup.putField(y, 1, 1);
        int[] due = {4, 6, 6, NONE};
        // with a = x2 and b = x3, w is x4, [a, w] is 2x5, [b, w] is x6 and [b, [a, w]] is 0
        LineFields z = Setup.cutAt(6);
        Setup.putField(z, 0, 1);
        Setup.putField(z, 1, 0, 1);
        int[] dueToo = {4, 5, NONE, NONE};
        for (int k = 2; k <= 5; k++) {
            BOOK.same("taken: " + k, y.differs(0, 1, k), due[k - 2]);
            BOOK.same("taken: " + k + ", of x2 and x3", z.differs(0, 1, k), dueToo[k - 2]);
        }
        BOOK.sentence("Returns the lowest power in which this field differs");
        for (int k = 2; k <= 5; k++) {
            BOOK.same("NONE of 0 and 0, " + k, y.differs(2, 2, k), NONE);
            BOOK.same("NONE with 0, " + k, y.differs(0, 2, k), NONE);
            BOOK.same("NONE with itself, " + k, y.differs(0, 0, k), NONE);
        }
        y.cut(5);
        BOOK.same("above the cut it does not", y.differs(0, 1, 3), NONE);
        y.cut(3);
        BOOK.same("above a lower cut it does not", y.differs(0, 1, 2), NONE);
        BOOK.sentence(WRONG_ARGUMENT);
        for (int k : new int[] {1, 6, 0, -1, LEAST, GREATEST}) {
            BOOK.refusedAlways("k is " + k, ARGUMENT, v -> v.differs(0, 1, k));
        }
    }

    private static void lacks() {
        BOOK.section("Promise 30: lacks");
        BOOK.sentence("Tells why an order of a program would be refused.");
        LineFields x = new LineFields();
        x.lacks('w');
        BOOK.same("nothing is paid for it", x.count(1), 500);
        for (Deed deed : Deed.values()) {
            if (deed.isOrder()) {
                BOOK.sentence("`order`: the character code");
                BOOK.same("taken: " + deed.letter, x.lacks(deed.letter), 0);
                BOOK.sentence("Returns 0 if it would not be");
                for (int c = 2; c <= 6; c++) {
                    int cost = c * deed.units;
                    String what = deed.letter + ", cut " + c + ", ";
                    BOOK.same(what + "with its cost", Setup.withPurse(c, cost).lacks(deed.letter), 0);
                    BOOK.same(what + "with one more", Setup.withPurse(c, cost + 1).lacks(deed.letter), 0);
                    BOOK.same(what + "with one less", Setup.withPurse(c, cost - 1).lacks(deed.letter), 1);
                    BOOK.same(what + "with nothing", Setup.withPurse(c, 0).lacks(deed.letter), cost);
                }
            }
        }
        BOOK.sentence(WRONG_ARGUMENT);
        for (int order = 0; order <= 127; order++) {
            int code = order;
            if ("bscweilp".chars().noneMatch(letter -> letter == code)) {
                BOOK.refused("code " + order, Setup::busy, ARGUMENT, y -> y.lacks(code));
            }
        }
        for (int order : new int[] {-1, -'b', 'b' + 128, 'b' + 256, 'b' + 65536, LEAST, GREATEST}) {
            BOOK.refusedAlways("order " + order, ARGUMENT, y -> y.lacks(order));
        }
    }

    private static void count() {
        BOOK.section("Promise 31: count");
        BOOK.sentence("Returns a number.");
        BOOK.same("nothing is paid for it", Setup.filled().count(5), 0);
        BOOK.sentence("`what`: 0: the cut");
        LineFields x = Setup.cutAt(3);
        x.setField(1, 3, 1);
        x.setField(2, 2, 1);
        x.setFlow(4, 3, 1);
        x.bracket(1, 2, 0);
        x.byBrackets(1, 2, 0);
        Setup.type(x, "b00>5;b00>5;w00>5");
        x.run();
        x.take(1);
        int[] due = {3, 500 - 6 - 60 - 12 - 60, 4, 1, 138, 5, 3, 1, 6};
        for (int what = 0; what <= 8; what++) {
            BOOK.same("taken: " + what, x.count(what), due[what]);
        }
        BOOK.sentence("Returns the number.");
        for (int what = 2; what <= 8; what++) {
            BOOK.same("the least of " + what, new LineFields().count(what), 0);
        }
        BOOK.same("the least of 0", Setup.cutAt(2).count(0), 2);
        BOOK.same("the least of 1", Setup.withPurse(5, 0).count(1), 0);
        BOOK.same("the greatest of 0", Setup.cutAt(6).count(0), 6);
        BOOK.same("the greatest of 1", Setup.rich().count(1), 100000);
        BOOK.same("the greatest of 2", Setup.filled().count(2), 6);
        BOOK.same("the greatest of 3", Setup.filled().count(3), 6);
        BOOK.same("the greatest of 7", Setup.busy().count(7), 2);
        BOOK.same("the greatest of 8", Setup.busy().count(8), 6);
        BOOK.sentence(WRONG_ARGUMENT);
        for (int what : new int[] {-1, 9, LEAST, GREATEST}) {
            BOOK.refusedAlways("what is " + what, ARGUMENT, y -> y.count(what));
        }
    }

    private static void isDensity(String what, LineFields x, int set, int all) {
        BOOK.same(what, Double.doubleToLongBits(x.density()), Double.doubleToLongBits((double) set / all));
    }

    private static void density() {
        BOOK.section("Promise 32: density");
        BOOK.sentence("Returns how many coefficients of fields are not 0.");
        isDensity("flows do not count", xAndSquare(), 0, 24);
        LineFields x = Setup.cutAt(4);
        Setup.putField(x, 5, 10006, 0, 1);
        isDensity("two of one field, with 0 between", x, 2, 18);
        BOOK.sentence("Returns their number, as a double");
        for (int c = 2; c <= 6; c++) {
            int all = 6 * (c - 1);
            LineFields y = Setup.cutAt(c);
            isDensity("none, cut " + c, y, 0, all);
            for (int set = 1; set <= all; set++) {
                y.setField((set - 1) / (c - 1), 2 + (set - 1) % (c - 1), set);
                isDensity(set + " of " + all, y, set, all);
            }
            y.setField(5, c, P);
            isDensity("all but one again, cut " + c, y, all - 1, all);
        }
    }

    /** What is hashed, from what the other calls answer. */
    private static List<Long> hashed(LineFields x, String text) {
        List<Long> values = new ArrayList<>();
        for (int what = 0; what <= 8; what++) {
            values.add((long) x.count(what));
        }
        for (int slot = 0; slot < 6; slot++) {
            for (int power = 2; power <= 6; power++) {
                values.add((long) x.field(slot, power));
            }
            for (int power = 2; power <= 6; power++) {
                values.add((long) x.flow(slot, power));
            }
            values.add((long) x.value(0, slot, 3));
            values.add((long) x.value(1, slot, 3));
            values.add((long) x.clash(slot, 0));
            values.add((long) x.apart(slot, 0));
            for (int k = 2; k <= 5; k++) {
                values.add((long) x.differs(0, slot, k));
            }
        }
        values.add(Double.doubleToLongBits(x.density()));
        values.add((long) text.length());
        text.chars().forEach(code -> values.add((long) code));
        return values;
    }

    private static long digestOf(LineFields x, String text) {
        long hash = 2473;
        for (long value : hashed(x, text)) {
            hash = 31 * hash + value;
        }
        return hash;
    }

    private static BigInteger wholeHashOf(LineFields x) {
        BigInteger hash = BigInteger.valueOf(2473);
        for (long value : hashed(x, "")) {
            hash = hash.multiply(BigInteger.valueOf(31)).add(BigInteger.valueOf(value));
        }
        return hash;
    }

    private static void digest() {
        BOOK.section("Promise 33: digest");
        BOOK.sentence("Computes a hash of the whole state.");
        BOOK.same("of a new object", new LineFields().digest(), digestOf(new LineFields(), ""));
        BOOK.same("of a busy one", Setup.busy().digest(), digestOf(Setup.busy(), "b01>2;e0>"));
        BOOK.same("of a poor one", Setup.poor().digest(), digestOf(Setup.poor(), Setup.FULL_PROGRAM));
        BOOK.same("of a rich one", Setup.rich().digest(), digestOf(Setup.rich(), ""));
        BOOK.sentence("The hash starts at 2473.");
        BOOK.same("of a new object, as the model tells", new LineFields().digest(), new Model().digest());
        BOOK.sentence("For each value v of the following list");
        long oneLonger = new LineFields().digest() + 1;
        BOOK.same("one character is one step", Setup.typed("~").digest(), 31 * oneLonger + '~');
        BigInteger whole = wholeHashOf(Setup.filled());
        BOOK.same("a long does not hold it whole", whole.bitLength() > 64 ? 1 : 0, 1);
        BOOK.same("what overflows is lost", Setup.filled().digest(), whole.longValue());
        BOOK.sentence("The values are: count(0) to count(8)");
        valuesOfDigest();
        BOOK.sentence("Returns the hash.");
        LineFields x = Setup.busy();
        BOOK.same("the same again", x.digest(), x.digest());
    }

    private static void valuesOfDigest() {
        for (int slot = 0; slot < 6; slot++) {
            for (int power = 2; power <= 6; power++) {
                LineFields x = Setup.filled();
                x.setField(slot, power, 1234);
                BOOK.same("field " + slot + ", power " + power, x.digest(), digestOf(x, ""));
                LineFields y = Setup.filled();
                y.setFlow(slot, power, 1234);
                BOOK.same("flow " + slot + ", power " + power, y.digest(), digestOf(y, ""));
            }
        }
        for (int c = 2; c <= 6; c++) {
            LineFields x = Setup.filled();
            x.cut(c);
            BOOK.same("cut " + c, x.digest(), digestOf(x, ""));
        }
        for (int c = 2; c <= 6; c++) {
            LineFields x = Setup.cutAt(c);
            Model m = new Model();
            m.cut(c);
            for (int slot = 0; slot < 6; slot++) {
                for (int power = 2; power <= c; power++) {
                    x.setField(slot, power, slot + power);
                    m.set(false, slot, power, slot + power);
                    String what = "density up to field " + slot + ", power " + power + ", cut " + c;
                    BOOK.same(what, x.digest(), m.digest());
                }
            }
        }
        BOOK.same("a buffer of 59", digestOfText("b".repeat(59)), digestOf(new LineFields(), "b".repeat(59)));
        BOOK.same("a buffer of 60", digestOfText("!".repeat(60)), digestOf(new LineFields(), "!".repeat(60)));
        BOOK.same("the order of the characters", digestOfText("b0"), digestOf(new LineFields(), "b0"));
    }

    private static long digestOfText(String text) {
        return Setup.typed(text).digest();
    }
}
