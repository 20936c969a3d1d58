import java.util.Set;
import java.util.function.Supplier;
import java.util.function.ToLongFunction;

/** Each sentence of the document's terms, with the boundary cases that it names. */
public final class TermsTest {
    private static final int P = Setup.P;
    private static final int NONE = LineFields.NONE;
    private static final Class<IndexOutOfBoundsException> INDEX = IndexOutOfBoundsException.class;
    private static final Class<IllegalArgumentException> ARGUMENT = IllegalArgumentException.class;
    private static final Class<IllegalStateException> STATE = IllegalStateException.class;
    static final Set<String> SECTIONS = Set.of("Terms", "Fields and flows", "Reckoning", "The second way",
            "Work", "Input text", "Snapshots, undo", "Exceptions");
    private static final String LETTERS = "bscwpeli";

    private static final Book BOOK = new Book();

    public static void main(String[] args) {
        numbers();
        quotients();
        greatestCoefficients();
        fieldsAndFlows();
        cutOff();
        leftOver();
        reckoningFields();
        exponentials();
        reckoningFlows();
        powersAndRoots();
        pushed();
        secondWay();
        purse();
        costs();
        fullBuffer();
        programs();
        orders();
        syntaxErrors();
        snapshots();
        undoables();
        notUndoables();
        whatIsSaved();
        history();
        refusals();
        severalExceptions();
        notes();
        BOOK.end("TermsTest", SECTIONS::contains);
    }

    // ---- numbers

    private static void numbers() {
        BOOK.section("Terms");
        BOOK.sentence("All numbers are integers.");
        LineFields x = new LineFields();
        Setup.putFlow(x, 0, 1);
        x.root(0, 2, 1);
        BOOK.same("a half is an integer too", x.flow(1, 2), 5004);
        BOOK.sentence("Coefficients are 0 to 10006");
        int[] given = {0, 1, 10006, 10007, 10008, -1, -10006, -10007, -10008, Integer.MAX_VALUE, Integer.MIN_VALUE};
        int[] told = {0, 1, 10006, 0, 1, 10006, 1, 0, 10006, 1461, 8545};
        for (int i = 0; i < given.length; i++) {
            x.setField(2, 2, given[i]);
            BOOK.same(given[i] + " in a field", x.field(2, 2), told[i]);
            x.setFlow(2, 2, given[i]);
            BOOK.same(given[i] + " in a flow", x.flow(2, 2), told[i]);
        }
        LineFields y = new LineFields();
        Setup.putField(y, 0, 10006, 5003, 5004, 10006);
        Setup.putField(y, 1, 1, 5003, 5003, 10006);
        y.sum(0, 1, 2);
        BOOK.isField("sums of P, of just below it, and of the greatest ones", y, 2, 0, 10006, 0, 10005);
        y.scale(0, 10006, 3);
        BOOK.isField("products with the greatest one", y, 3, 1, 5004, 5003, 1);
        y.cut(6);
        Setup.putField(y, 4, 10006);
        Setup.putField(y, 5, 0, 10006);
        y.bracket(4, 5, 3);
        BOOK.isField("a product of the greatest ones in a bracket", y, 3, 0, 0, 1);
        y.bracket(5, 4, 3);
        BOOK.isField("a difference that is -1", y, 3, 0, 0, 10006);
        Setup.putFlow(y, 0, 10006, 10006, 10006, 10006, 10006);
        BOOK.same("a value of the greatest ones", y.value(1, 0, -1), 10006 - 1);
    }

    private static void quotients() {
        LineFields x = new LineFields();
        x.earn(1000);
        Setup.putFlow(x, 0, 1);
        for (int n : new int[] {1, 2, 3, 4, 5, 12, 24, 4999, 5000}) {
            x.root(0, n, 1);
            BOOK.same("the quotient by " + n + " is below P", x.flow(1, 2) >= 0 && x.flow(1, 2) < P ? 1 : 0, 1);
            BOOK.same("the quotient by " + n + " gives 1 back", (long) x.flow(1, 2) * n % P, 1);
        }
    }

    private static String rows(LineFields x) {
        StringBuilder rows = new StringBuilder();
        for (int slot = 0; slot < 6; slot++) {
            for (int power = 0; power <= 6; power++) {
                rows.append(x.field(slot, power)).append(' ').append(x.flow(slot, power)).append(' ');
            }
        }
        return rows.toString();
    }

    private static String rows(Model m) {
        StringBuilder rows = new StringBuilder();
        for (int slot = 0; slot < 6; slot++) {
            for (int power = 0; power <= 6; power++) {
                rows.append(m.coefficient(false, slot, power)).append(' ');
                rows.append(m.coefficient(true, slot, power)).append(' ');
            }
        }
        return rows.toString();
    }

    private static void greatestCoefficients() {
        for (int least : new int[] {10006, 10000, 5003}) {
            for (Deed deed : Deed.values()) {
                LineFields x = Setup.cutAt(6);
                Model m = new Model();
                m.cut(6);
                for (int slot = 0; slot < 2; slot++) {
                    for (int power = 2; power <= 6; power++) {
                        int value = Math.min(10006, least + slot * power);
                        x.setField(slot, power, value);
                        x.setFlow(slot, power, value);
                        m.set(false, slot, power, value);
                        m.set(true, slot, power, value);
                    }
                }
                BOOK.same(deed + " with coefficients from " + least, deed.on(x, 0, 1, 2), deed.on(m, 0, 1, 2));
                BOOK.same(deed + " of coefficients from " + least, rows(x), rows(m));
                BOOK.same("looks after " + deed + " from " + least, x.digest(), m.digest());
            }
        }
    }

    // ---- fields and flows

    private static void fieldsAndFlows() {
        BOOK.section("Fields and flows");
        BOOK.sentence("There is a cut c");
        BOOK.same("at first", new LineFields().count(0), 5);
        BOOK.same("the least", Setup.cutAt(2).count(0), 2);
        BOOK.same("the greatest", Setup.cutAt(6).count(0), 6);
        BOOK.refusedAlways("below the least", ARGUMENT, x -> x.cut(1));
        BOOK.refusedAlways("above the greatest", ARGUMENT, x -> x.cut(7));
        BOOK.sentence("A field is a polynomial f(x)");
        for (int c = 2; c <= 6; c++) {
            int cut = c;
            Supplier<LineFields> made = () -> Setup.cutAt(cut);
            BOOK.same("a field has the power 2, cut " + c, made.get().setField(0, 2, 1), 0);
            BOOK.same("a field has the power of the cut " + c, made.get().setField(0, c, 1), 0);
            BOOK.same("a flow has the power 2, cut " + c, made.get().setFlow(0, 2, 1), 0);
            BOOK.same("a flow has the power of the cut " + c, made.get().setFlow(0, c, 1), 0);
            BOOK.refused("a field has no power 1, cut " + c, made, INDEX, x -> x.setField(0, 1, 1));
            BOOK.refused("a field has none above the cut " + c, made, INDEX, x -> x.setField(0, cut + 1, 1));
            BOOK.refused("a flow's power 1 stays, cut " + c, made, INDEX, x -> x.setFlow(0, 1, 2));
            BOOK.refused("a flow has none above the cut " + c, made, INDEX, x -> x.setFlow(0, cut + 1, 1));
            BOOK.same("the coefficient of x of a flow, cut " + c, made.get().flow(0, 1), 1);
            BOOK.same("the coefficient of x of a field, cut " + c, made.get().field(0, 1), 0);
        }
        BOOK.sentence("There are 6 fields and 6 flows");
        LineFields x = new LineFields();
        for (int slot = 0; slot <= 5; slot++) {
            BOOK.isField("at first field " + slot, x, slot);
            BOOK.isFlow("at first flow " + slot, x, slot);
        }
        for (int slot : new int[] {-1, 6}) {
            BOOK.refusedAlways("no field " + slot, INDEX, y -> y.field(slot, 2));
            BOOK.refusedAlways("no flow " + slot, INDEX, y -> y.flow(slot, 2));
        }
    }

    /** Flow 0 is x / (1 - x), flow 1 is x / (1 - 2x), fields 0 and 1 are x2 and x2 + x3. */
    private static LineFields series(int c) {
        LineFields x = Setup.cutAt(c);
        int power = 1;
        for (int k = 2; k <= c; k++) {
            power *= 2;
            x.setFlow(0, k, 1);
            x.setFlow(1, k, power);
        }
        x.setField(0, 2, 1);
        x.setField(1, 2, 1);
        if (c > 2) {
            x.setField(1, 3, 1);
        }
        return x;
    }

    private static int[] upTo(int c, int... coefficients) {
        return java.util.Arrays.copyOf(coefficients, c - 1);
    }

    /** What comes with the cut 6, as far as the cut goes. */
    private static void cutOff() {
        BOOK.sentence("Whatever comes of higher powers is left out");
        for (int c = 2; c <= 6; c++) {
            LineFields x = series(c);
            x.earn(1000);
            x.exp(0, 2);
            BOOK.isFlow("exponential, cut " + c, x, 2, upTo(c, 1, 1, 1, 1, 1));
            x.compose(0, 0, 3);
            BOOK.isFlow("composed, cut " + c, x, 3, upTo(c, 2, 4, 8, 16, 32));
            x.invert(0, 4);
            BOOK.isFlow("inverse, cut " + c, x, 4, upTo(c, -1, 1, -1, 1, -1));
            x.power(0, 3, 5);
            BOOK.isFlow("power, cut " + c, x, 5, upTo(c, 3, 9, 27, 81, 243));
            x.root(1, 2, 5);
            BOOK.isFlow("root, cut " + c, x, 5, upTo(c, 1, 1, 1, 1, 1));
            x.log(1, 2);
            BOOK.isField("logarithm, cut " + c, x, 2, 2);
            x.bracket(0, 1, 3);
            BOOK.isField("bracket, cut " + c, x, 3, upTo(c, 0, 0, 1));
            x.push(0, 1, 4);
            BOOK.isField("pushed, cut " + c, x, 4, upTo(c, 1, 1, -1, 1, -1));
            x.byBrackets(0, 1, 5);
            BOOK.isField("second way, cut " + c, x, 5,
                    upTo(c, 2, 1, Setup.over(1, 2), 0, Setup.over(-1, 3)));
        }
        LineFields y = series(6);
        y.cut(3);
        y.cut(6);
        BOOK.isFlow("left out for good", y, 0, 1, 1);
        BOOK.same("clash of what is left", y.clash(0, 1), 4);
    }

    /** What is reckoned with a lower cut has nothing of what was reckoned before with a higher one. */
    private static void leftOver() {
        for (Deed before : Deed.values()) {
            for (Deed deed : Deed.values()) {
                LineFields x = Setup.filled();
                Model m = Setup.filledModel();
                before.on(x, 0, 1, 2);
                before.on(m, 0, 1, 2);
                x.cut(3);
                m.cut(3);
                String what = deed + " with the cut 3 after " + before + " with the cut 6";
                BOOK.same(what, deed.on(x, 3, 4, 5), deed.on(m, 3, 4, 5));
                BOOK.same("what comes of " + what, rows(x), rows(m));
                BOOK.same("looks after " + what, x.digest(), m.digest());
            }
        }
        for (Deed deed : Deed.values()) {
            LineFields x = Setup.filled();
            Model m = Setup.filledModel();
            x.digest();
            x.cut(2);
            m.cut(2);
            deed.on(x, 3, 4, 5);
            deed.on(m, 3, 4, 5);
            BOOK.same("what comes of " + deed + " with the cut 2 after looks with the cut 6", rows(x), rows(m));
            BOOK.same("looks with the cut 2 after " + deed, x.digest(), m.digest());
        }
    }

    // ---- reckoning

    private static LineFields withFields(int c, int[] first, int[] second) {
        LineFields x = Setup.cutAt(c);
        Setup.putField(x, 0, first);
        Setup.putField(x, 1, second);
        return x;
    }

    private static void reckoningFields() {
        BOOK.section("Reckoning");
        BOOK.sentence("The derivative of the power x to the k");
        for (int k = 2; k <= 5; k++) {
            int[] power = new int[5];
            power[k - 2] = 1;
            LineFields x = withFields(6, new int[] {1}, power);
            x.bracket(0, 1, 2);
            int[] due = new int[6];
            due[k - 1] = k - 2;
            BOOK.isField("of the power " + k + ", in a bracket with x2", x, 2, due);
        }
        BOOK.sentence("Bracket of f and g");
        LineFields x = withFields(6, new int[] {2, 0, 5}, new int[] {0, 3});
        x.bracket(0, 1, 2);
        BOOK.isField("f, g", x, 2, 0, 0, 6, 0, -15);
        x.bracket(1, 0, 2);
        BOOK.isField("g, f is what it takes to 0", x, 2, 0, 0, -6, 0, 15);
        x.bracket(0, 0, 2);
        BOOK.isField("a field with itself", x, 2);
        BOOK.sentence("A field f acts on a polynomial g");
        LineFields y = withFields(6, new int[] {0, 6}, new int[] {});
        y.exp(0, 0);
        BOOK.isFlow("6x3 on x once and twice", y, 0, 0, 6, 0, 54);
    }

    private static void exponentials() {
        BOOK.sentence("Exponential of f");
        int[] square = {1};
        for (int c = 2; c <= 6; c++) {
            LineFields x = withFields(c, square, new int[] {});
            x.exp(0, 0);
            // x2 acts n times on x as n! x to the n + 1, so the power c is that of the last n alone
            BOOK.same("n = c - 1 is still in it, cut " + c, x.flow(0, c), 1);
            BOOK.same("n = c is 0, cut " + c, c == 6 ? 0 : x.flow(0, c + 1), 0);
            BOOK.same("n = 0 gives x, cut " + c, x.flow(0, 1), 1);
        }
        LineFields x = withFields(6, new int[] {0, 1}, new int[] {4, 0, 9});
        x.exp(0, 0);
        BOOK.isFlow("of x3", x, 0, 0, 1, 0, Setup.over(3, 2));
        x.exp(2, 1);
        BOOK.isFlow("of 0", x, 1);
        x.exp(1, 2);
        BOOK.isFlow("of 4x2 + 9x4", x, 2, 4, 16, 73, 364, 1888);
        BOOK.sentence("Logarithm of a flow a");
        x.log(2, 3);
        BOOK.isField("of that is the field again", x, 3, 4, 0, 9);
        x.log(5, 3);
        BOOK.isField("of x is 0", x, 3);
    }

    private static void reckoningFlows() {
        BOOK.sentence("Composed: first the flow a");
        LineFields x = Setup.cutAt(6);
        Setup.putFlow(x, 0, 1);
        Setup.putFlow(x, 1, 0, 1);
        x.compose(0, 1, 2);
        BOOK.isFlow("first x + x2, then x + x3", x, 2, 1, 1, 3, 3, 1);
        x.compose(1, 0, 2);
        BOOK.isFlow("first x + x3, then x + x2", x, 2, 1, 1, 2, 0, 1);
        x.compose(0, 5, 2);
        BOOK.isFlow("with x behind", x, 2, 1);
        x.compose(5, 1, 2);
        BOOK.isFlow("with x before", x, 2, 0, 1);
        BOOK.sentence("Inverse of a flow a");
        x.invert(0, 2);
        BOOK.isFlow("of x + x2", x, 2, -1, 2, -5, 14, -42);
        x.compose(0, 2, 3);
        BOOK.isFlow("behind it, x comes", x, 3);
        x.compose(2, 0, 3);
        BOOK.isFlow("before it, x comes too", x, 3);
        x.invert(5, 3);
        BOOK.isFlow("of x", x, 3);
    }

    private static void powersAndRoots() {
        BOOK.sentence("A flow a to the n");
        LineFields x = Setup.cutAt(6);
        x.earn(1000);
        Setup.putFlow(x, 0, 1);
        x.power(0, 0, 1);
        BOOK.isFlow("to the 0", x, 1);
        x.power(0, 1, 1);
        BOOK.isFlow("to the 1", x, 1, 1);
        x.power(0, 2, 1);
        BOOK.isFlow("to the 2", x, 1, 2, 2, 1);
        x.power(0, -1, 1);
        BOOK.isFlow("to the -1", x, 1, -1, 2, -5, 14, -42);
        x.compose(1, 1, 2);
        x.power(0, -2, 3);
        BOOK.same("to the -2 is the inverse twice", x.apart(2, 3) + rowsApart(x, 2, 3), NONE);
        x.root(0, 1, 1);
        BOOK.isFlow("root by 1", x, 1, 1);
        for (int n : new int[] {2, 3, 5, 5000}) {
            x.root(0, n, 2);
            x.power(2, n, 3);
            BOOK.isFlow("root by " + n + ", to the " + n, x, 3, 1);
        }
        x.root(5, 2, 3);
        BOOK.isFlow("root of x", x, 3);
    }

    private static int rowsApart(LineFields x, int one, int other) {
        int apart = 0;
        for (int power = 2; power <= 6; power++) {
            apart += x.flow(one, power) == x.flow(other, power) ? 0 : 1;
        }
        return apart;
    }

    private static void pushed() {
        BOOK.sentence("A field f pushed by a flow a");
        LineFields x = series(6);
        Setup.putField(x, 2, 0, 1);
        x.push(0, 2, 3);
        BOOK.isField("x3 by x / (1 - x)", x, 3, 0, 1, -1, 1, -1);
        x.push(5, 2, 3);
        BOOK.isField("by x it stays", x, 3, 0, 1);
        x.push(0, 5, 3);
        BOOK.isField("0 stays", x, 3);
    }

    private static void secondWay() {
        BOOK.section("The second way");
        BOOK.sentence("The field of a and b by brackets");
        LineFields x = withFields(6, new int[] {1}, new int[] {0, 1});
        x.byBrackets(0, 1, 2);
        BOOK.isField("x2 and x3", x, 2, 1, 1, Setup.over(1, 2), Setup.over(1, 6), Setup.over(-1, 12));
        x.byBrackets(1, 0, 2);
        BOOK.isField("x3 and x2", x, 2, 1, 1, Setup.over(-1, 2), Setup.over(1, 6), Setup.over(-1, 12));
        x.byBrackets(0, 5, 2);
        BOOK.isField("with 0 it is the other", x, 2, 1);
        BOOK.sentence("(It is the logarithm");
        for (int c = 2; c <= 6; c++) {
            LineFields y = Setup.filled();
            y.earn(1000);
            y.cut(c);
            y.exp(2, 2);
            y.exp(3, 3);
            y.compose(2, 3, 4);
            y.log(4, 0);
            y.byBrackets(2, 3, 1);
            y.scale(1, -1, 1);
            BOOK.same("less that, cut " + c, y.sum(0, 1, 2), NONE);
            BOOK.same("told by differs, cut " + c, y.differs(3, 4, 5), NONE);
        }
    }

    // ---- work

    private static void purse() {
        BOOK.section("Work");
        BOOK.sentence("There is a purse");
        BOOK.same("at first", new LineFields().count(1), 500);
    }

    private static void costs() {
        BOOK.sentence("What is done costs c times");
        for (Deed deed : Deed.values()) {
            for (int c = 2; c <= 6; c++) {
                LineFields x = Setup.cutAt(c);
                deed.on(x, 0, 1, 2);
                BOOK.same(deed + " leaves, cut " + c, x.count(1), 500 - c * deed.units);
                BOOK.same(deed + " is paid, cut " + c, x.count(4), c * deed.units);
            }
        }
        BOOK.sentence("It is refused");
        for (Deed deed : Deed.values()) {
            for (int c = 2; c <= 6; c++) {
                int cut = c;
                int cost = c * deed.units;
                LineFields x = Setup.withPurse(c, cost);
                deed.on(x, 0, 1, 2);
                BOOK.same(deed + " with just its cost, cut " + c, x.count(1), 0);
                BOOK.refused(deed + " with one less, cut " + c, () -> Setup.withPurse(cut, cost - 1), STATE,
                        y -> deed.on(y, 0, 1, 2));
                BOOK.refused(deed + " with nothing, cut " + c, () -> Setup.withPurse(cut, 0), STATE,
                        y -> deed.on(y, 0, 1, 2));
            }
        }
    }

    // ---- input text

    private static void fullBuffer() {
        BOOK.section("Input text");
        BOOK.sentence("The buffer has at most 60 characters.");
        LineFields x = Setup.typed("s".repeat(59));
        BOOK.same("the 60th is taken", x.append('s'), 60);
        BOOK.refused("the 61st is not", () -> Setup.typed("s".repeat(60)), STATE, y -> y.append('s'));
        LineFields y = Setup.typed(Setup.FULL_PROGRAM);
        BOOK.same("a program of 60 has no error", y.firstError(), 60);
        BOOK.same("a program of 60 runs", y.run(), 12);
    }

    private static void noProgram(String text) {
        BOOK.refused("\"" + text + "\"", () -> Setup.typed(text), ARGUMENT, LineFields::run);
    }

    private static void programs() {
        BOOK.sentence("A program as a text");
        noProgram("");
        noProgram(";");
        noProgram("s01>2;");
        noProgram(";s01>2");
        noProgram("s01>2;;s01>2");
        noProgram("s01>2s01>2");
        noProgram("s01>2,s01>2");
        noProgram("s01>2:s01>2");
        noProgram("s01>2<s01>2");
        BOOK.same("one order", Setup.typed("s01>2").run(), 1);
        BOOK.same("two orders", Setup.typed("s01>2;s01>2").run(), 2);
        BOOK.same("twelve orders", Setup.typed(Setup.FULL_PROGRAM).run(), 12);
    }

    /** The order, with a slot from which it reckons put in the first or the second place. */
    private static String order(char letter, char first, char second, char to) {
        return letter + "" + first + ("eli".indexOf(letter) >= 0 ? "" : second) + ">" + to;
    }

    private static void orders() {
        BOOK.sentence("An order is a letter");
        for (char letter : LETTERS.toCharArray()) {
            ordersOf(letter);
        }
        for (char other = 33; other <= 126; other++) {
            if (LETTERS.indexOf(other) < 0) {
                noProgram(other + "01>2");
                noProgram(other + "0>2");
            }
        }
        LineFields x = Setup.filled();
        Setup.type(x, "p14>3");
        x.run();
        Model m = Setup.filledModel();
        m.deed('p', 1, 4, 3);
        BOOK.same("of p, the flow is first", x.field(3, 4), m.coefficient(false, 3, 4));
    }

    private static void ordersOf(char letter) {
        for (char slot : "05".toCharArray()) {
            BOOK.same(order(letter, slot, '1', '2'), Setup.typed(order(letter, slot, '1', '2')).run(), 1);
            BOOK.same(order(letter, '1', '2', slot), Setup.typed(order(letter, '1', '2', slot)).run(), 1);
        }
        // "/" and "6" stand beside "0" and "5"
        for (char wrong : "/6".toCharArray()) {
            noProgram(order(letter, wrong, '1', '2'));
            noProgram(order(letter, '1', '2', wrong));
        }
        if ("eli".indexOf(letter) < 0) {
            BOOK.same("0 second, " + letter, Setup.typed(order(letter, '1', '0', '2')).run(), 1);
            BOOK.same("5 second, " + letter, Setup.typed(order(letter, '1', '5', '2')).run(), 1);
            noProgram(order(letter, '1', '/', '2'));
            noProgram(order(letter, '1', '6', '2'));
            noProgram(letter + "1>2");
        } else {
            noProgram(letter + "12>3");
        }
        String whole = order(letter, '1', '2', '3');
        for (int length = 1; length < whole.length(); length++) {
            noProgram(whole.substring(0, length));
        }
        noProgram(whole + "3");
        noProgram(whole.replace('>', '='));
        noProgram(whole.replace('>', '?'));
        noProgram(whole.replace(">", ""));
        noProgram(whole.toUpperCase());
    }

    private static void error(String text, int place) {
        BOOK.same("\"" + text + "\"", Setup.typed(text).firstError(), place);
    }

    private static void syntaxErrors() {
        BOOK.sentence("The buffer is read from left to right");
        error("", 0);
        error("x", 0);
        error("b", 1);
        error("bb", 1);
        error("b0>", 2);
        error("b00", 3);
        error("b000", 3);
        error("e0", 2);
        error("e00", 2);
        error("e0>", 3);
        error("e0>5", 4);
        error("e0>6", 3);
        error("e0>50", 4);
        error("e0>5;", 5);
        error("e0>5;;", 5);
        error("e0>5;x?", 5);
        error("?e0>5;x", 0);
        String long59 = Setup.FULL_PROGRAM.substring(0, 59);
        error(long59, 59);
        error(long59 + "?", 59);
        error(long59 + "6", 59);
        error("e0>1;".repeat(12), 60);
        error("s00>0;".repeat(9) + "s00>0;", 60);
        error("s00>0;".repeat(9) + "e0>0;b", 60);
        error("s00>0;".repeat(9) + "e0>0;x", 59);
    }

    // ---- snapshots, undo

    private static void snapshots() {
        BOOK.section("Snapshots, undo");
        BOOK.sentence("There are two snapshots");
        BOOK.same("at first none", new LineFields().count(7), 0);
        BOOK.refused("number 0 is not taken at first", LineFields::new, STATE, x -> x.restore(0));
        BOOK.refused("number 1 is not taken at first", LineFields::new, STATE, x -> x.restore(1));
        for (int number : new int[] {-1, 2}) {
            BOOK.refusedAlways("take, number " + number, INDEX, x -> x.take(number));
            BOOK.refusedAlways("restore, number " + number, INDEX, x -> x.restore(number));
        }
        LineFields x = Setup.filled();
        BOOK.same("number 0 is taken", x.take(0), 6);
        x.setField(0, 2, 77);
        BOOK.same("number 1 is taken", x.take(1), 6);
        BOOK.same("both are there", x.count(7), 2);
        x.restore(0);
        BOOK.same("number 0 is back", x.field(0, 2), 1);
        x.restore(1);
        BOOK.same("number 1 is back", x.field(0, 2), 77);
        BOOK.sentence("Each keeps the cut, the fields and the flows.");
        LineFields y = Setup.filled();
        y.take(1);
        y.cut(2);
        y.bracket(0, 1, 2);
        y.append('b');
        for (int slot = 0; slot < 6; slot++) {
            y.setField(slot, 2, 0);
            y.setFlow(slot, 2, 0);
        }
        y.restore(1);
        BOOK.same("the cut", y.count(0), 6);
        for (int slot = 0; slot < 6; slot++) {
            BOOK.isField("field " + slot, y, slot, Setup.fieldOf(slot));
            BOOK.isFlow("flow " + slot, y, slot, Setup.flowOf(slot));
        }
        BOOK.same("not the purse", y.count(1), 496);
        BOOK.same("not what was paid", y.count(4), 4);
        BOOK.same("not what was done", y.count(5), 1);
        BOOK.same("not the brackets", y.count(6), 1);
        BOOK.same("not the saved states", y.count(8), 6);
        BOOK.same("not the buffer", y.clearBuffer(), 1);
    }

    private static LineFields filledAndUndone() {
        LineFields x = Setup.filled();
        x.take(0);
        for (int i = 0; i < 6; i++) {
            x.undo();
        }
        return x;
    }

    private static void saves(String what, ToLongFunction<LineFields> call) {
        BOOK.undoable(what, TermsTest::filledAndUndone, call);
    }

    private static void undoables() {
        BOOK.sentence("Each method that is marked \"undoable\"");
        saves("cut", x -> x.cut(3));
        saves("cut that changes nothing", x -> x.cut(6));
        saves("setField", x -> x.setField(2, 3, 10000));
        saves("setField that changes nothing", x -> x.setField(2, 2, 3 + P));
        saves("setFlow", x -> x.setFlow(2, 3, 10000));
        saves("setFlow that changes nothing", x -> x.setFlow(2, 2, -1 - P));
        saves("earn", x -> x.earn(1));
        for (Deed deed : Deed.values()) {
            saves(deed.toString(), x -> deed.on(x, 1, 2, 3));
        }
        saves("restore", x -> x.restore(0));
        saves("restore that changes nothing", x -> x.restore(0) + x.undo() + x.restore(0));
        BOOK.undoable("run", () -> withText("s12>3;b01>4"), LineFields::run, LineFields::clearBuffer);
        BOOK.undoable("run that carries out nothing", () -> {
            LineFields x = Setup.withPurse(5, 4);
            Setup.type(x, "s12>3");
            return x;
        }, LineFields::run, LineFields::clearBuffer);
    }

    private static LineFields withText(String text) {
        LineFields x = filledAndUndone();
        Setup.type(x, text);
        return x;
    }

    private static void savesNothing(String what, ToLongFunction<LineFields> call) {
        BOOK.notUndoable(what, TermsTest::filledAndUndone, call);
    }

    private static void notUndoables() {
        savesNothing("append", x -> x.append('b'));
        savesNothing("clearBuffer", LineFields::clearBuffer);
        savesNothing("firstError", LineFields::firstError);
        savesNothing("take", x -> x.take(1));
        savesNothing("field", x -> x.field(0, 2));
        savesNothing("flow", x -> x.flow(0, 2));
        savesNothing("value", x -> x.value(0, 0, 2));
        savesNothing("clash", x -> x.clash(0, 1));
        savesNothing("apart", x -> x.apart(0, 1));
        savesNothing("differs", x -> x.differs(0, 1, 2));
        savesNothing("lacks", x -> x.lacks('w'));
        savesNothing("count", x -> x.count(8));
        savesNothing("density", x -> (long) x.density());
        savesNothing("digest", LineFields::digest);
    }

    private static void whatIsSaved() {
        LineFields x = new LineFields();
        x.bracket(0, 0, 0);
        x.cut(3);
        x.take(0);
        Setup.type(x, "b00>0;w00>0");
        x.run();
        x.append('q');
        x.take(1);
        x.undo();
        BOOK.same("the purse is saved", x.count(1), 490);
        BOOK.same("what was paid is saved", x.count(4), 10);
        BOOK.same("what was done is saved", x.count(5), 1);
        BOOK.same("the brackets are saved", x.count(6), 1);
        BOOK.same("the snapshots are not saved", x.count(7), 2);
        BOOK.same("the buffer is not saved", x.clearBuffer(), 1);
        x.undo();
        BOOK.same("the cut is saved", x.count(0), 5);
        x.undo();
        BOOK.same("all is as at first", x.count(1) + x.count(4) + x.count(5) + x.count(6), 500);
        x.restore(0);
        BOOK.same("the snapshot is as it was taken", x.count(0), 3);
    }

    private static LineFields numbered(int states) {
        LineFields x = new LineFields();
        for (int i = 1; i <= states; i++) {
            x.setField(0, 2, i);
        }
        return x;
    }

    /** The oldest state makes room for this one. */
    private static void withSixSaved(String what, ToLongFunction<LineFields> call) {
        LineFields x = Setup.busy();
        LineFields twin = Setup.busy();
        call.applyAsLong(x);
        BOOK.same(what + " with six saved", x.count(8), 6);
        for (int left = 5; left >= 0; left--) {
            BOOK.same(what + " leaves " + left + " of six", x.undo(), left);
            BOOK.same(what + " kept the state " + left, rows(x) + x.count(1), rows(twin) + twin.count(1));
            twin.undo();
        }
    }

    private static void history() {
        BOOK.sentence("At most 6 states are saved");
        BOOK.same("five", numbered(5).count(8), 5);
        BOOK.same("six", numbered(6).count(8), 6);
        BOOK.same("six of seven", numbered(7).count(8), 6);
        BOOK.same("six of a hundred", numbered(100).count(8), 6);
        for (int states : new int[] {6, 7, 100}) {
            LineFields x = numbered(states);
            for (int left = 5; left >= 0; left--) {
                BOOK.same("left of " + states + ", " + left, x.undo(), left);
                BOOK.same("the latest of " + states + " first, " + left, x.field(0, 2), states - 6 + left);
            }
        }
        BOOK.refused("none is left of six", () -> {
            LineFields x = numbered(6);
            for (int i = 0; i < 6; i++) {
                x.undo();
            }
            return x;
        }, STATE, LineFields::undo);
        for (Deed deed : Deed.values()) {
            withSixSaved(deed.toString(), x -> deed.on(x, 1, 2, 3));
        }
        withSixSaved("cut", x -> x.cut(2));
        withSixSaved("setField", x -> x.setField(0, 2, 4444));
        withSixSaved("setFlow", x -> x.setFlow(0, 2, 4444));
        withSixSaved("earn", x -> x.earn(1000));
        withSixSaved("restore", x -> x.restore(0));
        withSixSaved("run", x -> x.append('5') + x.run());
        LineFields x = numbered(6);
        x.undo();
        x.undo();
        x.cut(4);
        BOOK.same("saved behind those that are left", x.count(8), 5);
        x.undo();
        x.undo();
        BOOK.same("and those are still there", x.field(0, 2), 3);
    }

    // ---- exceptions, and what the interface says

    private static void refusals() {
        BOOK.section("Exceptions");
        BOOK.sentence("A call that throws an exception changes nothing.");
        BOOK.refusedAlways("cut", ARGUMENT, x -> x.cut(0));
        BOOK.refusedAlways("setField", INDEX, x -> x.setField(6, 2, 1));
        BOOK.refusedAlways("setFlow", INDEX, x -> x.setFlow(6, 2, 1));
        BOOK.refusedAlways("earn", ARGUMENT, x -> x.earn(0));
        BOOK.refused("earn, by the purse", Setup::rich, STATE, x -> x.earn(1));
        for (Deed deed : Deed.values()) {
            BOOK.refusedAlways(deed.toString(), INDEX, x -> deed.on(x, 0, 1, 6));
            BOOK.refused(deed + ", by the purse", Setup::poor, STATE, x -> deed.on(x, 0, 1, 2));
        }
        BOOK.refusedAlways("power, by n", ARGUMENT, x -> x.power(0, 5001, 0));
        BOOK.refusedAlways("root, by n", ARGUMENT, x -> x.root(0, 0, 0));
        BOOK.refusedAlways("append", ARGUMENT, x -> x.append(32));
        BOOK.refused("append, by the buffer", Setup::poor, STATE, x -> x.append('b'));
        BOOK.refused("run", Setup::busy, ARGUMENT, LineFields::run);
        BOOK.refusedAlways("take", INDEX, x -> x.take(2));
        BOOK.refusedAlways("restore", INDEX, x -> x.restore(2));
        BOOK.refused("restore, not taken", Setup::poor, STATE, x -> x.restore(0));
        BOOK.refused("undo", LineFields::new, STATE, LineFields::undo);
        BOOK.refusedAlways("field", INDEX, x -> x.field(0, 7));
        BOOK.refusedAlways("flow", INDEX, x -> x.flow(0, 7));
        BOOK.refusedAlways("value", ARGUMENT, x -> x.value(2, 0, 0));
        BOOK.refusedAlways("clash", INDEX, x -> x.clash(0, 6));
        BOOK.refusedAlways("apart", INDEX, x -> x.apart(0, 6));
        BOOK.refusedAlways("differs", ARGUMENT, x -> x.differs(0, 0, 1));
        BOOK.refusedAlways("lacks", ARGUMENT, x -> x.lacks('n'));
        BOOK.refusedAlways("count", ARGUMENT, x -> x.count(9));
    }

    private static void severalExceptions() {
        BOOK.sentence("If several exceptions apply");
        BOOK.refused("earn: money, and too much", Setup::rich, ARGUMENT, x -> x.earn(1001));
        BOOK.refused("earn: far too much money", Setup::rich, ARGUMENT, x -> x.earn(Integer.MAX_VALUE));
        for (Deed deed : Deed.values()) {
            for (int place = 0; place < 3; place++) {
                if (deed.isSlot(place)) {
                    int[] with = {0, 1, 2};
                    with[place] = 6;
                    BOOK.refused(deed + ": slot " + place + ", and purse", Setup::poor, INDEX, x -> deed.on(x, with));
                }
            }
        }
        BOOK.refused("power: slot, and n", Setup::busy, INDEX, x -> x.power(6, 5001, 0));
        BOOK.refused("power: slot of the result, and n", Setup::busy, INDEX, x -> x.power(0, -5001, -1));
        BOOK.refused("power: slot, n and purse", Setup::poor, INDEX, x -> x.power(6, 5001, 0));
        BOOK.refused("power: n, and purse", Setup::poor, ARGUMENT, x -> x.power(0, 5001, 0));
        BOOK.refused("root: slot, and n", Setup::busy, INDEX, x -> x.root(6, 0, 0));
        BOOK.refused("root: slot of the result, and n", Setup::busy, INDEX, x -> x.root(0, 5001, -1));
        BOOK.refused("root: slot, n and purse", Setup::poor, INDEX, x -> x.root(6, 0, 0));
        BOOK.refused("root: n, and purse", Setup::poor, ARGUMENT, x -> x.root(0, 0, 0));
        BOOK.refused("append: code, and full", Setup::poor, ARGUMENT, x -> x.append(127));
        BOOK.refused("restore: number, and not taken", LineFields::new, INDEX, x -> x.restore(2));
        BOOK.refused("value: slot, and what", LineFields::new, INDEX, x -> x.value(2, 6, 0));
        BOOK.refused("differs: slot, and k", LineFields::new, INDEX, x -> x.differs(6, 0, 1));
        BOOK.refused("differs: the other slot, and k", LineFields::new, INDEX, x -> x.differs(0, 6, 6));
    }

    private static void notes() {
        BOOK.sentence("The constants");
        BOOK.same("NONE", NONE, -1);
        BOOK.sentence("Ahead of the calls `cut`");
        BOOK.same("they are not done for pay", Setup.filled().count(5), 0);
        BOOK.sentence("Ahead of the calls `bracket`");
        BOOK.same("the lowest power of several", Setup.filled().sum(0, 1, 2), 2);
        BOOK.same("of 0", new LineFields().sum(0, 1, 2), NONE);
        BOOK.sentence("Ahead of the calls `exp`");
        BOOK.same("the lowest power above 1 of several", Setup.filled().exp(0, 1), 2);
        BOOK.same("of x", new LineFields().exp(0, 1), NONE);
        BOOK.sentence("Ahead of the calls `append`");
        LineFields y = Setup.typed("b01>2");
        y.firstError();
        y.clearBuffer();
        y.take(0);
        y.restore(0);
        y.undo();
        BOOK.same("by themselves they are not paid", y.count(4), 0);
        BOOK.same("by themselves they are not done for pay", y.count(5), 0);
        BOOK.sentence("Ahead of the calls `field`");
        LineFields x = Setup.busy();
        Portrait.looksAt(x);
        BOOK.same("nothing is changed, and nothing is paid", Portrait.of(x), Portrait.of(Setup.busy()));
    }
}
