import java.util.function.LongSupplier;
import java.util.function.ToLongFunction;

/** Each promise of the document by itself: ordinary inputs, the edges that it names, and wrong inputs. */
public final class PromisesTest {
    private static final int P = 10007;
    private static final Class<IndexOutOfBoundsException> INDEX = IndexOutOfBoundsException.class;
    private static final Class<IllegalArgumentException> ARGUMENT = IllegalArgumentException.class;
    private static final Class<IllegalStateException> STATE = IllegalStateException.class;
    private static final int[] WRONG_SLOTS = {-1, 6, Integer.MIN_VALUE, Integer.MAX_VALUE};

    private static final Checks CHECKS = new Checks();

    public static void main(String[] args) {
        newObject();
        cut();
        setField();
        setFlow();
        earn();
        bracket();
        sum();
        scale();
        byBrackets();
        push();
        log();
        exp();
        compose();
        invert();
        power();
        root();
        costs();
        slots();
        append();
        clearBuffer();
        firstError();
        run();
        runRefused();
        take();
        restore();
        undo();
        undoables();
        field();
        flow();
        value();
        clash();
        apart();
        differs();
        lacks();
        count();
        density();
        digest();
        exceptionsInOrder();
        CHECKS.end("PromisesTest");
    }

    // ---- helpers

    private static LineFields cutAt(int c) {
        LineFields x = new LineFields();
        x.cut(c);
        return x;
    }

    /** Sets the coefficients of the powers from 2 on. */
    private static void putField(LineFields x, int slot, int... coefficients) {
        for (int i = 0; i < coefficients.length; i++) {
            x.setField(slot, i + 2, coefficients[i]);
        }
    }

    private static void putFlow(LineFields x, int slot, int... coefficients) {
        for (int i = 0; i < coefficients.length; i++) {
            x.setFlow(slot, i + 2, coefficients[i]);
        }
    }

    private static void isField(String what, LineFields x, int slot, int... coefficients) {
        for (int power = 0; power <= 6; power++) {
            int due = power < 2 || power - 2 >= coefficients.length ? 0 : Math.floorMod(coefficients[power - 2], P);
            CHECKS.same(what + ", field " + slot + " power " + power, x.field(slot, power), due);
        }
    }

    private static void isFlow(String what, LineFields x, int slot, int... coefficients) {
        CHECKS.same(what + ", flow " + slot + " power 0", x.flow(slot, 0), 0);
        CHECKS.same(what + ", flow " + slot + " power 1", x.flow(slot, 1), 1);
        for (int power = 2; power <= 6; power++) {
            int due = power - 2 >= coefficients.length ? 0 : Math.floorMod(coefficients[power - 2], P);
            CHECKS.same(what + ", flow " + slot + " power " + power, x.flow(slot, power), due);
        }
    }

    private static int over(int number, int by) {
        for (int quotient = 0; quotient < P; quotient++) {
            if (Math.floorMod((long) quotient * by - number, P) == 0) {
                return quotient;
            }
        }
        throw new IllegalStateException("no quotient");
    }

    private static void type(LineFields x, String text) {
        for (int i = 0; i < text.length(); i++) {
            x.append(text.charAt(i));
        }
    }

    private static LineFields typed(String text) {
        LineFields x = new LineFields();
        type(x, text);
        return x;
    }

    /** Leaves exactly so much in the purse, and room for one saved state more. */
    private static LineFields withPurse(int c, int money) {
        LineFields x = cutAt(2);
        if (money % 2 != 0) {
            x.earn(1);
        }
        while (x.count(1) - money >= 40) {
            x.byBrackets(5, 5, 5);
        }
        while (x.count(1) > money) {
            x.sum(5, 5, 5);
        }
        x.cut(c);
        x.cut(c);
        x.undo();
        return x;
    }

    // ---- promises 1 to 5

    private static void newObject() {
        LineFields x = new LineFields();
        for (int slot = 0; slot < 6; slot++) {
            isField("new", x, slot);
            isFlow("new", x, slot);
        }
        int[] counts = {5, 500, 0, 0, 0, 0, 0, 0, 0};
        for (int what = 0; what < counts.length; what++) {
            CHECKS.same("new, count " + what, x.count(what), counts[what]);
        }
        CHECKS.same("new, density", Double.doubleToLongBits(x.density()), 0L);
        CHECKS.same("new, first error", x.firstError(), 0);
        CHECKS.same("new, buffer", x.clearBuffer(), 0);
        CHECKS.throwing("new, undo", x, STATE, x::undo);
        CHECKS.throwing("new, run", x, ARGUMENT, x::run);
        CHECKS.throwing("new, restore 0", x, STATE, () -> x.restore(0));
        CHECKS.throwing("new, restore 1", x, STATE, () -> x.restore(1));
        CHECKS.same("NONE", LineFields.NONE, -1);
        LineFields other = new LineFields();
        other.setField(0, 2, 1);
        CHECKS.same("objects have nothing in common", x.field(0, 2), 0);
    }

    private static void cut() {
        LineFields x = new LineFields();
        CHECKS.same("cut 6", x.cut(6), 5);
        putField(x, 1, 1, 2, 3, 4, 5);
        putFlow(x, 2, 6, 7, 8, 9, 10);
        CHECKS.same("cut 4", x.cut(4), 6);
        isField("cut at 4", x, 1, 1, 2, 3);
        isFlow("cut at 4", x, 2, 6, 7, 8);
        CHECKS.same("cut 6 again", x.cut(6), 4);
        isField("stays cut", x, 1, 1, 2, 3);
        isFlow("stays cut", x, 2, 6, 7, 8);
        CHECKS.same("cut 2", x.cut(2), 6);
        isField("cut at 2", x, 1, 1);
        isFlow("cut at 2", x, 2, 6);
        for (int wrong : new int[] {1, 7, 0, -2, Integer.MIN_VALUE, Integer.MAX_VALUE}) {
            CHECKS.throwing("cut " + wrong, x, ARGUMENT, () -> x.cut(wrong));
        }
        LineFields y = new LineFields();
        CHECKS.same("the cut that it has", y.cut(5), 5);
        CHECKS.same("saves a state too", y.count(8), 1);
        CHECKS.same("nothing is paid", y.count(1), 500);
    }

    private static void setField() {
        LineFields x = new LineFields();
        CHECKS.same("set", x.setField(3, 2, 17), 0);
        CHECKS.same("set again", x.setField(3, 2, -1), 17);
        CHECKS.same("-1", x.setField(3, 2, P), 10006);
        CHECKS.same("P", x.setField(3, 2, Integer.MAX_VALUE), 0);
        CHECKS.same("the largest", x.setField(3, 2, Integer.MIN_VALUE), Math.floorMod(Integer.MAX_VALUE, P));
        CHECKS.same("the least", x.setField(3, 2, 0), Math.floorMod(Integer.MIN_VALUE, P));
        CHECKS.same("at the cut", x.setField(5, 5, 4), 0);
        isField("at the cut", x, 5, 0, 0, 0, 4);
        isFlow("the flow beside it stays", x, 5);
        for (int slot : WRONG_SLOTS) {
            CHECKS.throwing("setField slot " + slot, x, INDEX, () -> x.setField(slot, 2, 1));
        }
        for (int power : new int[] {1, 6, 0, -1, Integer.MIN_VALUE, Integer.MAX_VALUE}) {
            CHECKS.throwing("setField power " + power, x, INDEX, () -> x.setField(0, power, 1));
        }
        LineFields y = cutAt(2);
        CHECKS.throwing("setField above the cut", y, INDEX, () -> y.setField(0, 3, 1));
        LineFields z = cutAt(6);
        CHECKS.same("setField power 6", z.setField(0, 6, 1), 0);
        CHECKS.throwing("setField power 7", z, INDEX, () -> z.setField(0, 7, 1));
    }

    private static void setFlow() {
        LineFields x = new LineFields();
        CHECKS.same("set", x.setFlow(0, 3, 20), 0);
        CHECKS.same("set again", x.setFlow(0, 3, -10008), 20);
        CHECKS.same("-10008", x.setFlow(0, 3, 1), 10006);
        CHECKS.same("at the cut", x.setFlow(5, 5, 10007 + 9), 0);
        isFlow("at the cut", x, 5, 0, 0, 0, 9);
        isField("the field beside it stays", x, 5);
        for (int slot : WRONG_SLOTS) {
            CHECKS.throwing("setFlow slot " + slot, x, INDEX, () -> x.setFlow(slot, 2, 1));
        }
        for (int power : new int[] {1, 6, 0, -1, Integer.MIN_VALUE, Integer.MAX_VALUE}) {
            CHECKS.throwing("setFlow power " + power, x, INDEX, () -> x.setFlow(0, power, 1));
        }
        LineFields y = cutAt(3);
        CHECKS.throwing("setFlow above the cut", y, INDEX, () -> y.setFlow(0, 4, 1));
    }

    private static void earn() {
        LineFields x = new LineFields();
        CHECKS.same("earn 1", x.earn(1), 501);
        CHECKS.same("earn 999", x.earn(999), 1500);
        for (int wrong : new int[] {0, -1, 1001, Integer.MIN_VALUE, Integer.MAX_VALUE}) {
            CHECKS.throwing("earn " + wrong, x, ARGUMENT, () -> x.earn(wrong));
        }
        for (int i = 0; i < 98; i++) {
            x.earn(1000);
        }
        CHECKS.same("nearly full", x.count(1), 99500);
        CHECKS.throwing("too much", x, STATE, () -> x.earn(501));
        CHECKS.same("full", x.earn(500), 100000);
        CHECKS.throwing("more", x, STATE, () -> x.earn(1));
        CHECKS.throwing("more, but wrong", x, ARGUMENT, () -> x.earn(0));
        CHECKS.same("earning is not paying", x.count(4), 0);
        CHECKS.same("earning is not done for pay", x.count(5), 0);
    }

    // ---- promises 6 to 16

    private static void bracket() {
        LineFields x = cutAt(6);
        putField(x, 0, 1);
        putField(x, 1, 0, 1);
        CHECKS.same("[x2, x3]", x.bracket(0, 1, 2), 4);
        isField("[x2, x3]", x, 2, 0, 0, 1);
        CHECKS.same("[x3, x2]", x.bracket(1, 0, 2), 4);
        isField("[x3, x2]", x, 2, 0, 0, -1);
        CHECKS.same("[x2, x2]", x.bracket(0, 0, 2), LineFields.NONE);
        isField("[x2, x2]", x, 2);
        putField(x, 3, 0, 0, 0, 0, 5);
        CHECKS.same("above the cut", x.bracket(0, 3, 4), LineFields.NONE);
        putField(x, 3, 3, 0, 7, 0, 0);
        CHECKS.same("into its own slot", x.bracket(3, 1, 3), 4);
        isField("[3x2 + 7x4, x3]", x, 3, 0, 0, 3, 0, -7);
        CHECKS.same("paid", x.count(4), 60);
        CHECKS.same("brackets", x.count(6), 5);
        LineFields y = cutAt(6);
        putField(y, 0, 0, 1);
        putField(y, 1, 0, 0, 1);
        CHECKS.same("[x3, x4]", y.bracket(0, 1, 2), 6);
        y.cut(5);
        CHECKS.same("[x3, x4] cut at 5", y.bracket(0, 1, 2), LineFields.NONE);
    }

    private static void sum() {
        LineFields x = new LineFields();
        putField(x, 0, 10000, 3, 0, 1);
        putField(x, 1, 7, -3, 2, 10006);
        CHECKS.same("sum", x.sum(0, 1, 1), 4);
        isField("sum", x, 1, 0, 0, 2, 0);
        CHECKS.same("sum with itself", x.sum(0, 0, 0), 2);
        isField("sum with itself", x, 0, 9993, 6, 0, 2);
        CHECKS.same("zeros", x.sum(4, 5, 0), LineFields.NONE);
        CHECKS.same("paid", x.count(4), 15);
        CHECKS.same("no brackets", x.count(6), 0);
    }

    private static void scale() {
        LineFields x = new LineFields();
        putField(x, 0, 0, 5004, 1, 10006);
        CHECKS.same("by 2", x.scale(0, 2, 1), 3);
        isField("by 2", x, 1, 0, 1, 2, -2);
        CHECKS.same("by -1", x.scale(1, -1, 1), 3);
        isField("by -1", x, 1, 0, -1, -2, 2);
        CHECKS.same("by P", x.scale(0, P, 2), LineFields.NONE);
        CHECKS.same("by the least", x.scale(0, Integer.MIN_VALUE, 3), 3);
        CHECKS.same("by the least", x.field(3, 4), Math.floorMod(Integer.MIN_VALUE, P));
        CHECKS.same("by the largest", x.scale(0, Integer.MAX_VALUE, 3), 3);
        CHECKS.same("by the largest", x.field(3, 4), Math.floorMod(Integer.MAX_VALUE, P));
        CHECKS.same("by 0", x.scale(0, 0, 0), LineFields.NONE);
        CHECKS.same("paid", x.count(4), 30);
    }

    private static void byBrackets() {
        LineFields x = cutAt(6);
        putField(x, 0, 1, 1);
        putField(x, 1, 1);
        CHECKS.same("second way", x.byBrackets(0, 1, 2), 2);
        isField("second way", x, 2, 2, 1, over(-1, 2), 0, over(1, 6));
        CHECKS.same("paid", x.count(4), 120);
        CHECKS.same("its brackets are not counted", x.count(6), 0);
        putField(x, 3, 0, 1);
        CHECKS.same("into its own slot", x.byBrackets(1, 3, 1), 2);
        isField("x2 and x3", x, 1, 1, 1, over(1, 2), over(1, 6), over(-1, 12));
        CHECKS.same("zeros", x.byBrackets(4, 4, 5), LineFields.NONE);
    }

    private static void push() {
        LineFields x = cutAt(6);
        putFlow(x, 1, 1, 1, 1, 1, 1);
        putField(x, 2, 0, 1);
        CHECKS.same("push", x.push(1, 2, 2), 3);
        isField("x3 pushed by x / (1 - x)", x, 2, 0, 1, -1, 1, -1);
        putField(x, 0, 1);
        CHECKS.same("push", x.push(1, 0, 3), 2);
        isField("the field of the flow stays", x, 3, 1);
        CHECKS.same("push 0", x.push(1, 4, 3), LineFields.NONE);
        CHECKS.same("push by x", x.push(0, 2, 5), 3);
        isField("pushed by x", x, 5, 0, 1, -1, 1, -1);
        isFlow("the flow stays", x, 1, 1, 1, 1, 1, 1);
        CHECKS.same("paid", x.count(4), 4 * 36);
    }

    private static void log() {
        LineFields x = cutAt(6);
        putFlow(x, 0, 1, 1, 1, 1, 1);
        CHECKS.same("log", x.log(0, 1), 2);
        isField("log of x / (1 - x)", x, 1, 1);
        putFlow(x, 2, 1);
        CHECKS.same("log", x.log(2, 2), 2);
        isField("log of x + x2", x, 2, 1, -1, over(3, 2), over(-8, 3), over(31, 6));
        isFlow("the flow stays", x, 2, 1);
        CHECKS.same("log of x", x.log(5, 2), LineFields.NONE);
        CHECKS.same("paid", x.count(4), 3 * 36);
    }

    private static void exp() {
        LineFields x = cutAt(6);
        putField(x, 0, 1);
        CHECKS.same("exp", x.exp(0, 0), 2);
        isFlow("exp of x2", x, 0, 1, 1, 1, 1, 1);
        isField("the field stays", x, 0, 1);
        putField(x, 1, 1, -1, over(3, 2), over(-8, 3), over(31, 6));
        CHECKS.same("exp", x.exp(1, 2), 2);
        isFlow("exp back", x, 2, 1);
        CHECKS.same("exp of 0", x.exp(5, 2), LineFields.NONE);
        isFlow("exp of 0", x, 2);
        CHECKS.same("paid", x.count(4), 90);
        x.cut(3);
        putField(x, 3, 0, 4);
        CHECKS.same("exp of 4x3 cut at 3", x.exp(3, 3), 3);
        isFlow("exp of 4x3 cut at 3", x, 3, 0, 4);
    }

    private static void compose() {
        LineFields x = cutAt(6);
        putFlow(x, 0, 1);
        putFlow(x, 1, 0, 1);
        CHECKS.same("first x + x2", x.compose(0, 1, 2), 2);
        isFlow("first x + x2", x, 2, 1, 1, 3, 3, 1);
        CHECKS.same("first x + x3", x.compose(1, 0, 0), 2);
        isFlow("first x + x3", x, 0, 1, 1, 2, 0, 1);
        CHECKS.same("x", x.compose(4, 5, 0), LineFields.NONE);
        isFlow("x", x, 0);
        CHECKS.same("paid", x.count(4), 72);
    }

    private static void invert() {
        LineFields x = cutAt(6);
        putFlow(x, 0, 1);
        CHECKS.same("inverse", x.invert(0, 1), 2);
        isFlow("inverse of x + x2", x, 1, -1, 2, -5, 14, -42);
        CHECKS.same("back, in its slot", x.invert(1, 1), 2);
        isFlow("back", x, 1, 1);
        CHECKS.same("inverse of x", x.invert(5, 1), LineFields.NONE);
        isFlow("inverse of x", x, 1);
        CHECKS.same("paid", x.count(4), 72);
    }

    private static void geometric(String what, LineFields x, int slot, int ratio) {
        int[] due = new int[5];
        long power = 1;
        for (int i = 0; i < 5; i++) {
            power = Math.floorMod(power * ratio, P);
            due[i] = (int) power;
        }
        isFlow(what, x, slot, due);
    }

    private static void power() {
        LineFields x = cutAt(6);
        x.earn(1000);
        putFlow(x, 0, 1, 1, 1, 1, 1);
        for (int n : new int[] {2, -1, 1, 5000, -5000, 4999}) {
            CHECKS.same("power " + n, x.power(0, n, 1), 2);
            geometric("power " + n, x, 1, n);
        }
        CHECKS.same("power 0", x.power(0, 0, 0), LineFields.NONE);
        isFlow("power 0", x, 0);
        CHECKS.same("paid", x.count(4), 7 * 48);
        putFlow(x, 2, 1);
        CHECKS.same("in its slot", x.power(2, 2, 2), 2);
        isFlow("x + x2 twice", x, 2, 2, 2, 1);
        for (int n : new int[] {5001, -5001, Integer.MIN_VALUE, Integer.MAX_VALUE}) {
            CHECKS.throwing("power " + n, x, ARGUMENT, () -> x.power(0, n, 0));
        }
    }

    private static void root() {
        LineFields x = cutAt(6);
        x.earn(1000);
        putFlow(x, 0, 6, 36, 216, 1296, 7776);
        CHECKS.same("root 3", x.root(0, 3, 1), 2);
        geometric("root 3", x, 1, 2);
        CHECKS.same("root 1", x.root(0, 1, 1), 2);
        geometric("root 1", x, 1, 6);
        CHECKS.same("root 5000", x.root(0, 5000, 1), 2);
        geometric("root 5000", x, 1, over(6, 5000));
        putFlow(x, 2, 2, 2, 1);
        CHECKS.same("in its slot", x.root(2, 2, 2), 2);
        isFlow("half of x + x2 twice", x, 2, 1);
        CHECKS.same("root of x", x.root(5, 7, 2), LineFields.NONE);
        isFlow("root of x", x, 2);
        CHECKS.same("paid", x.count(4), 5 * 48);
        for (int n : new int[] {2, 5, 7, 11, 13, 17, 4999}) {
            x.earn(1000);
            CHECKS.same("root " + n, x.root(0, n, 1), 2);
            geometric("root " + n, x, 1, over(6, n));
        }
        for (int n : new int[] {0, -1, 5001, Integer.MIN_VALUE, Integer.MAX_VALUE}) {
            CHECKS.throwing("root " + n, x, ARGUMENT, () -> x.root(0, n, 0));
        }
    }

    private static final String[] PAID = {"bracket", "sum", "scale", "exp", "log", "compose", "invert", "power", "root",
        "push", "byBrackets"};
    private static final int[] UNITS = {2, 1, 1, 5, 6, 4, 4, 8, 8, 6, 20};

    private static int pay(LineFields x, String what, int first, int second, int to) {
        switch (what) {
            case "bracket":
                return x.bracket(first, second, to);
            case "sum":
                return x.sum(first, second, to);
            case "scale":
                return x.scale(first, second, to);
            case "exp":
                return x.exp(first, to);
            case "log":
                return x.log(first, to);
            case "compose":
                return x.compose(first, second, to);
            case "invert":
                return x.invert(first, to);
            case "power":
                return x.power(first, second, to);
            case "root":
                return x.root(first, second + 1, to);
            case "push":
                return x.push(first, second, to);
            default:
                return x.byBrackets(first, second, to);
        }
    }

    private static void costs() {
        for (int i = 0; i < PAID.length; i++) {
            String what = PAID[i];
            for (int c = 2; c <= 6; c++) {
                int cost = c * UNITS[i];
                LineFields poor = withPurse(c, cost - 1);
                CHECKS.throwing(what + " with too little, cut " + c, poor, STATE, () -> pay(poor, what, 0, 1, 2));
                CHECKS.throwing(what + " wrong and with too little", poor, INDEX, () -> pay(poor, what, 6, 1, 2));
                LineFields able = withPurse(c, cost);
                int paid = able.count(4);
                int done = able.count(5);
                CHECKS.undoable(what, able, () -> pay(able, what, 0, 1, 2));
                pay(able, what, 0, 1, 2);
                CHECKS.same(what + " leaves", able.count(1), 0);
                CHECKS.same(what + " paid", able.count(4), paid + cost);
                CHECKS.same(what + " done", able.count(5), done + 1);
            }
        }
    }

    private static void slots() {
        LineFields x = new LineFields();
        for (String what : PAID) {
            boolean twoSlots = !(what.equals("scale") || what.equals("exp") || what.equals("log")
                    || what.equals("invert") || what.equals("power") || what.equals("root"));
            for (int slot : WRONG_SLOTS) {
                CHECKS.throwing(what + " from " + slot, x, INDEX, () -> pay(x, what, slot, 0, 0));
                CHECKS.throwing(what + " to " + slot, x, INDEX, () -> pay(x, what, 0, 0, slot));
                if (twoSlots) {
                    CHECKS.throwing(what + " and " + slot, x, INDEX, () -> pay(x, what, 0, slot, 0));
                }
            }
            pay(x, what, 5, 5, 5);
            x.undo();
        }
    }

    // ---- promises 17 to 23

    private static void append() {
        LineFields x = new LineFields();
        for (int wrong : new int[] {32, 127, 0, -1, 256 + 50, Integer.MIN_VALUE, Integer.MAX_VALUE}) {
            CHECKS.throwing("append " + wrong, x, ARGUMENT, () -> x.append(wrong));
        }
        CHECKS.same("append 33", x.append(33), 1);
        CHECKS.same("append 126", x.append(126), 2);
        for (int i = 3; i <= 60; i++) {
            CHECKS.same("append", x.append('b'), i);
        }
        CHECKS.throwing("append the 61st", x, STATE, () -> x.append('b'));
        CHECKS.throwing("append the 61st, but wrong", x, ARGUMENT, () -> x.append(32));
        CHECKS.same("append is not undoable", x.count(8), 0);
    }

    private static void clearBuffer() {
        LineFields x = typed("b01");
        CHECKS.same("clear", x.clearBuffer(), 3);
        CHECKS.same("clear again", x.clearBuffer(), 0);
        CHECKS.same("append after it", x.append('e'), 1);
        CHECKS.same("first error after it", x.firstError(), 1);
        CHECKS.same("clearing is not undoable", x.count(8), 0);
    }

    private static void wrongAt(String text, int place) {
        LineFields x = typed(text);
        long before = x.digest();
        CHECKS.same("first error of " + text, x.firstError(), place);
        CHECKS.same("first error of " + text + " changes nothing", x.digest(), before);
        CHECKS.throwing("run of " + text, x, ARGUMENT, x::run);
        CHECKS.same("the buffer stays", x.clearBuffer(), text.length());
    }

    private static void firstError() {
        wrongAt("", 0);
        for (char letter = 33; letter <= 126; letter++) {
            int digits = "bscwp".indexOf(letter) >= 0 ? 2 : "eli".indexOf(letter) >= 0 ? 1 : 0;
            wrongAt(letter + "5", digits == 0 ? 0 : 2);
            wrongAt(letter + "55", digits == 0 ? 0 : digits == 1 ? 2 : 3);
            wrongAt(letter + "5>", digits == 0 ? 0 : digits == 1 ? 3 : 2);
        }
        for (char sign = 33; sign <= 126; sign++) {
            boolean slot = sign >= '0' && sign <= '5';
            wrongAt("b" + sign, slot ? 2 : 1);
            wrongAt("b0" + sign, slot ? 3 : 2);
            wrongAt("b00" + sign, sign == '>' ? 4 : 3);
            if (!slot) {
                wrongAt("b00>" + sign, 4);
                wrongAt("e0>" + sign, 3);
            }
            wrongAt("e0>0" + sign, sign == ';' ? 5 : 4);
            wrongAt("e0>0;" + sign, "bscwpeli".indexOf(sign) >= 0 ? 6 : 5);
        }
        wrongAt("b01>2;e0>1;", 11);
        wrongAt("b01>2;e0>1;;", 11);
        wrongAt("b01>2;e0>15", 10);
        wrongAt(";", 0);
        wrongAt("e0>1;x??", 5);
        LineFields whole = typed("b01>2;e0>1");
        CHECKS.same("a program has no error", whole.firstError(), 10);
    }

    private static void run() {
        LineFields x = new LineFields();
        putField(x, 0, 1);
        putField(x, 1, 0, 1);
        type(x, "b01>2;s02>3;w01>4;e3>0;l0>5;e1>1;c10>2;i2>3;p01>1");
        CHECKS.same("run", x.run(), 9);
        CHECKS.same("clears the buffer", x.clearBuffer(), 0);
        CHECKS.same("brackets", x.count(6), 1);
        CHECKS.same("done", x.count(5), 9);
        CHECKS.same("paid", x.count(4), 5 * (2 + 1 + 20 + 5 + 6 + 5 + 4 + 4 + 6));
        LineFields y = new LineFields();
        putField(y, 0, 1);
        putField(y, 1, 0, 1);
        y.bracket(0, 1, 2);
        y.sum(0, 2, 3);
        y.byBrackets(0, 1, 4);
        y.exp(3, 0);
        y.log(0, 5);
        y.exp(1, 1);
        y.compose(1, 0, 2);
        y.invert(2, 3);
        y.push(0, 1, 1);
        while (x.count(8) < y.count(8)) {
            x.cut(5);
        }
        CHECKS.same("run as by the calls", x.digest(), y.digest());
        LineFields z = new LineFields();
        type(z, "e0>0;e0>0;e0>0;e0>0;e0>0;e0>0;e0>0;e0>0;e0>0;e0>0;e0>0;e0>0");
        z.clearBuffer();
        type(z, "i0>0;i0>0;i0>0;i0>0;i0>0;i0>0;i0>0;i0>0;i0>0;i0>0;i0>0;i0>0");
        CHECKS.same("twelve orders", z.run(), 12);
        CHECKS.same("undoable as one call", z.count(8), 1);
        CHECKS.same("undo", z.undo(), 0);
        CHECKS.same("undone", z.digest(), new LineFields().digest());
    }

    private static void runRefused() {
        LineFields x = withPurse(5, 104);
        type(x, "w01>2;s00>0;s00>0");
        CHECKS.same("up to the first that is refused", x.run(), 1);
        CHECKS.same("paid for one", x.count(1), 4);
        CHECKS.same("clears the buffer", x.clearBuffer(), 0);
        int saved = x.count(8);
        type(x, "s00>0");
        CHECKS.same("none is carried out", x.run(), 0);
        CHECKS.same("clears the buffer", x.clearBuffer(), 0);
        CHECKS.same("saves a state all the same", x.count(8), Math.min(6, saved + 1));
        LineFields exact = withPurse(5, 105);
        type(exact, "w01>2;s00>0");
        CHECKS.same("with just what it costs", exact.run(), 2);
        CHECKS.same("nothing is left", exact.count(1), 0);
        LineFields y = withPurse(5, 9);
        type(y, "b00>0;s00>0");
        CHECKS.same("a cheaper one behind is not carried out", y.run(), 0);
        CHECKS.same("nothing is paid", y.count(1), 9);
    }

    private static void take() {
        LineFields x = new LineFields();
        putField(x, 0, 1);
        putField(x, 4, 0, 0, 0, 1);
        CHECKS.same("take", x.take(0), 2);
        CHECKS.same("taken", x.count(7), 1);
        putField(x, 4, 0, 0, 0, 0);
        CHECKS.same("take in its place", x.take(0), 1);
        CHECKS.same("taken", x.count(7), 1);
        CHECKS.same("take the other", x.take(1), 1);
        CHECKS.same("taken", x.count(7), 2);
        x.setField(0, 2, 0);
        CHECKS.same("restore the later one", x.restore(0), 1);
        for (int wrong : new int[] {2, -1, Integer.MIN_VALUE, Integer.MAX_VALUE}) {
            CHECKS.throwing("take " + wrong, x, INDEX, () -> x.take(wrong));
        }
        LineFields y = new LineFields();
        y.take(1);
        CHECKS.same("taking saves no state", y.count(8), 0);
        CHECKS.throwing("the other one is not taken", y, STATE, () -> y.restore(0));
        CHECKS.same("this one is", y.restore(1), 0);
    }

    private static void restore() {
        LineFields x = cutAt(6);
        putField(x, 1, 1, 2, 3, 4, 5);
        putFlow(x, 2, 5, 4, 3, 2, 1);
        x.take(1);
        x.cut(2);
        x.setField(1, 2, 0);
        x.setFlow(3, 2, 9);
        x.sum(0, 0, 0);
        x.earn(10);
        x.append('b');
        CHECKS.same("restore", x.restore(1), 1);
        isField("restored", x, 1, 1, 2, 3, 4, 5);
        isFlow("restored", x, 2, 5, 4, 3, 2, 1);
        isFlow("restored", x, 3);
        CHECKS.same("the cut", x.count(0), 6);
        CHECKS.same("not the purse", x.count(1), 508);
        CHECKS.same("not what was paid", x.count(4), 2);
        CHECKS.same("not what was done", x.count(5), 1);
        CHECKS.same("not the buffer", x.clearBuffer(), 1);
        x.setField(1, 6, 0);
        x.setField(0, 2, 1);
        CHECKS.same("it stays", x.restore(1), 1);
        isField("restored again", x, 1, 1, 2, 3, 4, 5);
        CHECKS.same("undo of restore", x.undo(), 5);
        CHECKS.same("undone", x.field(0, 2), 1);
        CHECKS.same("the snapshot stays", x.count(7), 1);
        for (int wrong : new int[] {2, -1, Integer.MIN_VALUE, Integer.MAX_VALUE}) {
            CHECKS.throwing("restore " + wrong, x, INDEX, () -> x.restore(wrong));
        }
        CHECKS.throwing("restore 0", x, STATE, () -> x.restore(0));
    }

    private static void undo() {
        LineFields x = new LineFields();
        for (int i = 1; i <= 8; i++) {
            x.setField(0, 2, i);
        }
        CHECKS.same("at most six", x.count(8), 6);
        for (int i = 7; i >= 2; i--) {
            CHECKS.same("left", x.undo(), i - 2);
            CHECKS.same("before it", x.field(0, 2), i);
        }
        CHECKS.throwing("none left", x, STATE, x::undo);
        LineFields y = new LineFields();
        y.bracket(0, 0, 0);
        type(y, "b00>0");
        y.take(0);
        y.run();
        y.append('q');
        CHECKS.same("undo run", y.undo(), 1);
        CHECKS.same("the purse", y.count(1), 490);
        CHECKS.same("what was paid", y.count(4), 10);
        CHECKS.same("what was done", y.count(5), 1);
        CHECKS.same("brackets", y.count(6), 1);
        CHECKS.same("not the snapshots", y.count(7), 1);
        CHECKS.same("not the buffer", y.clearBuffer(), 1);
        CHECKS.same("undo bracket", y.undo(), 0);
        CHECKS.same("brackets", y.count(6), 0);
        CHECKS.same("the snapshot stays", y.restore(0), 0);
    }

    private static void undoables() {
        LineFields x = cutAt(6);
        putField(x, 0, 1);
        putFlow(x, 0, 2);
        x.take(0);
        x.undo();
        x.undo();
        CHECKS.undoable("cut", x, () -> x.cut(2));
        CHECKS.undoable("cut to the same", x, () -> x.cut(6));
        CHECKS.undoable("setField", x, () -> x.setField(1, 3, 4));
        CHECKS.undoable("setField to the same", x, () -> x.setField(1, 3, 0));
        CHECKS.undoable("setFlow", x, () -> x.setFlow(1, 3, 4));
        CHECKS.undoable("setFlow to the same", x, () -> x.setFlow(1, 3, 0));
        CHECKS.undoable("earn", x, () -> x.earn(5));
        CHECKS.undoable("restore", x, () -> x.restore(0));
        for (String what : PAID) {
            CHECKS.undoable(what, x, () -> pay(x, what, 0, 0, 3));
        }
        CHECKS.undoable("run", x, () -> {
            type(x, "e0>5;w00>1");
            return x.run();
        });
        long before = x.digest();
        looks(x);
        CHECKS.same("looks change nothing", x.digest(), before);
    }

    private static void looks(LineFields x) {
        x.field(0, 2);
        x.flow(0, 2);
        x.value(0, 0, 5);
        x.clash(0, 1);
        x.apart(0, 1);
        x.differs(0, 1, 4);
        x.lacks('w');
        x.count(1);
        x.density();
        x.firstError();
    }

    // ---- promises 24 to 33

    private static void reads(String what, LineFields x, java.util.function.IntBinaryOperator read) {
        for (int slot : WRONG_SLOTS) {
            CHECKS.throwing(what + " slot " + slot, x, INDEX, () -> read.applyAsInt(slot, 2));
        }
        for (int power : new int[] {-1, 7, Integer.MIN_VALUE, Integer.MAX_VALUE}) {
            CHECKS.throwing(what + " power " + power, x, INDEX, () -> read.applyAsInt(0, power));
        }
    }

    private static void field() {
        LineFields x = cutAt(3);
        putField(x, 5, 8, 9);
        isField("field", x, 5, 8, 9);
        CHECKS.same("above the cut", x.field(5, 6), 0);
        reads("field", x, x::field);
    }

    private static void flow() {
        LineFields x = cutAt(3);
        putFlow(x, 5, 8, 9);
        isFlow("flow", x, 5, 8, 9);
        CHECKS.same("above the cut", x.flow(5, 6), 0);
        reads("flow", x, x::flow);
    }

    private static void value() {
        LineFields x = cutAt(6);
        putField(x, 0, 1, 2, 3, 4, 5);
        putFlow(x, 0, 1, 2, 3, 4, 5);
        CHECKS.same("field at 1", x.value(0, 0, 1), 15);
        CHECKS.same("flow at 1", x.value(1, 0, 1), 16);
        CHECKS.same("field at 0", x.value(0, 0, 0), 0);
        CHECKS.same("flow at P", x.value(1, 0, P), 0);
        CHECKS.same("field at -1", x.value(0, 0, -1), 1 - 2 + 3 - 4 + 5);
        CHECKS.same("flow at -1", x.value(1, 0, -1), 2);
        CHECKS.same("flow at 10", x.value(1, 0, 10), 5432110 % P);
        CHECKS.same("flow x", x.value(1, 3, Integer.MIN_VALUE), Math.floorMod(Integer.MIN_VALUE, P));
        CHECKS.same("flow x", x.value(1, 3, Integer.MAX_VALUE), Math.floorMod(Integer.MAX_VALUE, P));
        for (int slot : WRONG_SLOTS) {
            CHECKS.throwing("value slot " + slot, x, INDEX, () -> x.value(0, slot, 1));
            CHECKS.throwing("value slot " + slot + ", what 2", x, INDEX, () -> x.value(2, slot, 1));
        }
        for (int what : new int[] {2, -1, Integer.MIN_VALUE, Integer.MAX_VALUE}) {
            CHECKS.throwing("value of " + what, x, ARGUMENT, () -> x.value(what, 0, 1));
        }
    }

    private static void clash() {
        LineFields x = cutAt(6);
        putField(x, 0, 1);
        putField(x, 1, 0, 1);
        putField(x, 2, 5, 0, 0, 1);
        CHECKS.same("x2 and x3", x.clash(0, 1), 4);
        CHECKS.same("x3 and x2", x.clash(1, 0), 4);
        CHECKS.same("x2 and 5x2 + x5", x.clash(0, 2), 6);
        CHECKS.same("with itself", x.clash(2, 2), LineFields.NONE);
        CHECKS.same("with 0", x.clash(0, 5), LineFields.NONE);
        CHECKS.same("no bracket is counted", x.count(6), 0);
        CHECKS.same("nothing is paid", x.count(4), 0);
        x.cut(5);
        CHECKS.same("cut at 5", x.clash(0, 2), LineFields.NONE);
        twoSlots("clash", x, slots -> x.clash(slots[0], slots[1]));
    }

    private static void twoSlots(String what, LineFields x, ToLongFunction<int[]> look) {
        for (int slot : WRONG_SLOTS) {
            CHECKS.throwing(what + " of " + slot, x, INDEX, () -> look.applyAsLong(new int[] {slot, 0}));
            CHECKS.throwing(what + " with " + slot, x, INDEX, () -> look.applyAsLong(new int[] {0, slot}));
        }
    }

    private static void apart() {
        LineFields x = cutAt(6);
        putFlow(x, 0, 1);
        putFlow(x, 1, 0, 1);
        putFlow(x, 2, 1, 1, 1, 1, 1);
        putFlow(x, 3, 7, 49, 343, 2401, 16807);
        CHECKS.same("x + x2 and x + x3", x.apart(0, 1), 4);
        CHECKS.same("the other way", x.apart(1, 0), 4);
        CHECKS.same("of one field", x.apart(2, 3), LineFields.NONE);
        CHECKS.same("with itself", x.apart(0, 0), LineFields.NONE);
        CHECKS.same("with x", x.apart(0, 5), LineFields.NONE);
        CHECKS.same("nothing is paid", x.count(4), 0);
        x.cut(3);
        CHECKS.same("cut at 3", x.apart(0, 1), LineFields.NONE);
        twoSlots("apart", x, slots -> x.apart(slots[0], slots[1]));
    }

    private static void differs() {
        LineFields x = cutAt(6);
        putField(x, 0, 1, 1);
        putField(x, 1, 1);
        int[] due = {4, 6, 6, LineFields.NONE};
        for (int k = 2; k <= 5; k++) {
            CHECKS.same("differs " + k, x.differs(0, 1, k), due[k - 2]);
            CHECKS.same("with itself " + k, x.differs(0, 0, k), LineFields.NONE);
            CHECKS.same("with 0 " + k, x.differs(0, 5, k), LineFields.NONE);
        }
        putField(x, 2, 0, 1);
        CHECKS.same("x2 and x3, 3", x.differs(1, 2, 3), 5);
        CHECKS.same("x2 and x3, 4", x.differs(1, 2, 4), LineFields.NONE);
        CHECKS.same("nothing is paid", x.count(4), 0);
        x.cut(5);
        CHECKS.same("cut at 5", x.differs(0, 1, 3), LineFields.NONE);
        twoSlots("differs", x, slots -> x.differs(slots[0], slots[1], 2));
        twoSlots("differs, wrong k", x, slots -> x.differs(slots[0], slots[1], 1));
        for (int k : new int[] {1, 6, -1, Integer.MIN_VALUE, Integer.MAX_VALUE}) {
            CHECKS.throwing("differs by " + k, x, ARGUMENT, () -> x.differs(0, 0, k));
        }
    }

    private static void lacks() {
        String letters = "bscweilp";
        int[] units = {2, 1, 4, 20, 5, 4, 6, 6};
        for (int i = 0; i < letters.length(); i++) {
            char letter = letters.charAt(i);
            for (int c = 2; c <= 6; c++) {
                int cost = c * units[i];
                CHECKS.same("lacks nothing", withPurse(c, cost).lacks(letter), 0);
                CHECKS.same("lacks nothing with more", withPurse(c, cost + 9).lacks(letter), 0);
                CHECKS.same("lacks 1", withPurse(c, cost - 1).lacks(letter), 1);
                CHECKS.same("lacks all", withPurse(c, 0).lacks(letter), cost);
            }
        }
        LineFields x = new LineFields();
        for (int order = -2; order <= 200; order++) {
            int code = order;
            if (code <= 0 || letters.indexOf(code) < 0) {
                CHECKS.throwing("lacks " + code, x, ARGUMENT, () -> x.lacks(code));
            }
        }
        for (int order : new int[] {'b' + 65536, 'b' + 256, Integer.MIN_VALUE, Integer.MAX_VALUE}) {
            CHECKS.throwing("lacks " + order, x, ARGUMENT, () -> x.lacks(order));
        }
    }

    private static void count() {
        LineFields x = cutAt(4);
        putField(x, 0, 1);
        putField(x, 3, 0, 1);
        putFlow(x, 1, 0, 0, 1);
        x.bracket(0, 3, 4);
        type(x, "b00>5;w00>5;s00>5");
        x.run();
        x.earn(7);
        x.take(1);
        int[] due = {4, 500 - 100 + 7, 4, 1, 100, 4, 2, 1, 6};
        for (int what = 0; what < due.length; what++) {
            CHECKS.same("count " + what, x.count(what), due[what]);
        }
        for (int wrong : new int[] {9, -1, Integer.MIN_VALUE, Integer.MAX_VALUE}) {
            CHECKS.throwing("count " + wrong, x, ARGUMENT, () -> x.count(wrong));
        }
    }

    private static void density() {
        for (int c = 2; c <= 6; c++) {
            LineFields x = cutAt(c);
            int set = 0;
            int all = 6 * (c - 1);
            for (int slot = 0; slot < 6; slot++) {
                for (int power = 2; power <= c; power++) {
                    x.setFlow(slot, power, 1);
                    x.setField(slot, power, 1 + slot);
                    set++;
                    long due = Double.doubleToLongBits((double) set / all);
                    CHECKS.same("density", Double.doubleToLongBits(x.density()), due);
                    CHECKS.same("digest", x.digest(), digestOf(x, ""));
                }
            }
        }
    }

    private static long digestOf(LineFields x, String text) {
        long hash = 2473;
        for (int what = 0; what <= 8; what++) {
            hash = 31 * hash + x.count(what);
        }
        for (int slot = 0; slot < 6; slot++) {
            for (int power = 2; power <= 6; power++) {
                hash = 31 * hash + x.field(slot, power);
            }
            for (int power = 2; power <= 6; power++) {
                hash = 31 * hash + x.flow(slot, power);
            }
            hash = 31 * hash + x.value(0, slot, 3);
            hash = 31 * hash + x.value(1, slot, 3);
            hash = 31 * hash + x.clash(slot, 0);
            hash = 31 * hash + x.apart(slot, 0);
            for (int k = 2; k <= 5; k++) {
                hash = 31 * hash + x.differs(0, slot, k);
            }
        }
        hash = 31 * hash + Double.doubleToLongBits(x.density());
        hash = 31 * hash + text.length();
        for (int i = 0; i < text.length(); i++) {
            hash = 31 * hash + text.charAt(i);
        }
        return hash;
    }

    private static void digest() {
        LineFields x = new LineFields();
        CHECKS.same("new", x.digest(), digestOf(x, ""));
        x.cut(6);
        putField(x, 0, 1, 1, 4);
        putField(x, 1, 1, 0, 2, 9, 1);
        putField(x, 2, 0, 3, 5);
        putFlow(x, 0, 1);
        putFlow(x, 3, 2, 0, 7, 0, 10006);
        x.bracket(0, 1, 3);
        x.take(0);
        type(x, "b0!~");
        CHECKS.same("some", x.digest(), digestOf(x, "b0!~"));
        CHECKS.same("again", x.digest(), digestOf(x, "b0!~"));
        x.clearBuffer();
        CHECKS.same("cleared", x.digest(), digestOf(x, ""));
        LineFields y = new LineFields();
        type(y, "ab");
        LineFields z = new LineFields();
        type(z, "ba");
        CHECKS.same("the order of the characters tells", y.digest() == z.digest() ? 1 : 0, 0);
    }

    private static void thrown(String what, LineFields x, Class<? extends RuntimeException> due, LongSupplier call) {
        CHECKS.throwing("first of several: " + what, x, due, call);
    }

    private static void exceptionsInOrder() {
        LineFields poor = withPurse(5, 0);
        thrown("power, slot", poor, INDEX, () -> poor.power(6, 5001, 0));
        thrown("power, slot of the result", poor, INDEX, () -> poor.power(0, 5001, 6));
        thrown("power, n", poor, ARGUMENT, () -> poor.power(0, 5001, 0));
        thrown("power, purse", poor, STATE, () -> poor.power(0, 5000, 0));
        thrown("root, slot", poor, INDEX, () -> poor.root(6, 0, 0));
        thrown("root, slot of the result", poor, INDEX, () -> poor.root(0, 0, 6));
        thrown("root, n", poor, ARGUMENT, () -> poor.root(0, 0, 0));
        thrown("root, purse", poor, STATE, () -> poor.root(0, 1, 0));
        thrown("scale, slot of the result", poor, INDEX, () -> poor.scale(0, 1, 6));
        thrown("value", poor, INDEX, () -> poor.value(9, 9, 9));
        thrown("differs", poor, INDEX, () -> poor.differs(0, 9, 9));
        thrown("restore", poor, INDEX, () -> poor.restore(9));
    }
}
