/** Ordinary inputs, with answers that were reckoned by hand; and every beginning of an order with each sign behind. */
public final class AnswersTest {
    private static final int P = 10007;
    private static final Class<IllegalArgumentException> ARGUMENT = IllegalArgumentException.class;

    private static final Checks CHECKS = new Checks();

    public static void main(String[] args) {
        bracket();
        sum();
        scale();
        byBrackets();
        push();
        log();
        exp();
        compose();
        invert();
        power();
        root();
        firstError();
        run();
        clash();
        apart();
        differs();
        CHECKS.end("AnswersTest");
    }

    // ---- promises 6 to 16

    private static void bracket() {
        LineFields x = Setup.cutAt(6);
        Setup.putField(x, 0, 1);
        Setup.putField(x, 1, 0, 1);
        CHECKS.same("[x2, x3]", x.bracket(0, 1, 2), 4);
        CHECKS.isField("[x2, x3]", x, 2, 0, 0, 1);
        CHECKS.same("[x3, x2]", x.bracket(1, 0, 2), 4);
        CHECKS.isField("[x3, x2]", x, 2, 0, 0, -1);
        CHECKS.same("[x2, x2]", x.bracket(0, 0, 2), LineFields.NONE);
        CHECKS.isField("[x2, x2]", x, 2);
        Setup.putField(x, 3, 0, 0, 0, 0, 5);
        CHECKS.same("above the cut", x.bracket(0, 3, 4), LineFields.NONE);
        Setup.putField(x, 3, 3, 0, 7, 0, 0);
        CHECKS.same("into its own slot", x.bracket(3, 1, 3), 4);
        CHECKS.isField("[3x2 + 7x4, x3]", x, 3, 0, 0, 3, 0, -7);
        CHECKS.same("paid", x.count(4), 60);
        CHECKS.same("brackets", x.count(6), 5);
        LineFields y = Setup.cutAt(6);
        Setup.putField(y, 0, 0, 1);
        Setup.putField(y, 1, 0, 0, 1);
        CHECKS.same("[x3, x4]", y.bracket(0, 1, 2), 6);
        y.cut(5);
        CHECKS.same("[x3, x4] cut at 5", y.bracket(0, 1, 2), LineFields.NONE);
    }

    private static void sum() {
        LineFields x = new LineFields();
        Setup.putField(x, 0, 10000, 3, 0, 1);
        Setup.putField(x, 1, 7, -3, 2, 10006);
        CHECKS.same("sum", x.sum(0, 1, 1), 4);
        CHECKS.isField("sum", x, 1, 0, 0, 2, 0);
        CHECKS.same("sum with itself", x.sum(0, 0, 0), 2);
        CHECKS.isField("sum with itself", x, 0, 9993, 6, 0, 2);
        CHECKS.same("zeros", x.sum(4, 5, 0), LineFields.NONE);
        CHECKS.same("paid", x.count(4), 15);
        CHECKS.same("no brackets", x.count(6), 0);
    }

    private static void scale() {
        LineFields x = new LineFields();
        Setup.putField(x, 0, 0, 5004, 1, 10006);
        CHECKS.same("by 2", x.scale(0, 2, 1), 3);
        CHECKS.isField("by 2", x, 1, 0, 1, 2, -2);
        CHECKS.same("by -1", x.scale(1, -1, 1), 3);
        CHECKS.isField("by -1", x, 1, 0, -1, -2, 2);
        CHECKS.same("by P", x.scale(0, P, 2), LineFields.NONE);
        CHECKS.same("by the least", x.scale(0, Integer.MIN_VALUE, 3), 3);
        CHECKS.same("by the least", x.field(3, 4), Math.floorMod(Integer.MIN_VALUE, P));
        CHECKS.same("by the largest", x.scale(0, Integer.MAX_VALUE, 3), 3);
        CHECKS.same("by the largest", x.field(3, 4), Math.floorMod(Integer.MAX_VALUE, P));
        CHECKS.same("by 0", x.scale(0, 0, 0), LineFields.NONE);
        CHECKS.same("paid", x.count(4), 30);
    }

    private static void byBrackets() {
        LineFields x = Setup.cutAt(6);
        Setup.putField(x, 0, 1, 1);
        Setup.putField(x, 1, 1);
        CHECKS.same("second way", x.byBrackets(0, 1, 2), 2);
        CHECKS.isField("second way", x, 2, 2, 1, Setup.over(-1, 2), 0, Setup.over(1, 6));
        CHECKS.same("paid", x.count(4), 120);
        CHECKS.same("its brackets are not counted", x.count(6), 0);
        Setup.putField(x, 3, 0, 1);
        CHECKS.same("into its own slot", x.byBrackets(1, 3, 1), 2);
        CHECKS.isField("x2 and x3", x, 1, 1, 1, Setup.over(1, 2), Setup.over(1, 6), Setup.over(-1, 12));
        CHECKS.same("zeros", x.byBrackets(4, 4, 5), LineFields.NONE);
    }

    private static void push() {
        LineFields x = Setup.cutAt(6);
        Setup.putFlow(x, 1, 1, 1, 1, 1, 1);
        Setup.putField(x, 2, 0, 1);
        CHECKS.same("push", x.push(1, 2, 2), 3);
        CHECKS.isField("x3 pushed by x / (1 - x)", x, 2, 0, 1, -1, 1, -1);
        Setup.putField(x, 0, 1);
        CHECKS.same("push", x.push(1, 0, 3), 2);
        CHECKS.isField("the field of the flow stays", x, 3, 1);
        CHECKS.same("push 0", x.push(1, 4, 3), LineFields.NONE);
        CHECKS.same("push by x", x.push(0, 2, 5), 3);
        CHECKS.isField("pushed by x", x, 5, 0, 1, -1, 1, -1);
        CHECKS.isFlow("the flow stays", x, 1, 1, 1, 1, 1, 1);
        CHECKS.same("paid", x.count(4), 4 * 36);
    }

    private static void log() {
        LineFields x = Setup.cutAt(6);
        Setup.putFlow(x, 0, 1, 1, 1, 1, 1);
        CHECKS.same("log", x.log(0, 1), 2);
        CHECKS.isField("log of x / (1 - x)", x, 1, 1);
        Setup.putFlow(x, 2, 1);
        CHECKS.same("log", x.log(2, 2), 2);
        CHECKS.isField("log of x + x2", x, 2, 1, -1, Setup.over(3, 2), Setup.over(-8, 3), Setup.over(31, 6));
        CHECKS.isFlow("the flow stays", x, 2, 1);
        CHECKS.same("log of x", x.log(5, 2), LineFields.NONE);
        CHECKS.same("paid", x.count(4), 3 * 36);
    }

    private static void exp() {
        LineFields x = Setup.cutAt(6);
        Setup.putField(x, 0, 1);
        CHECKS.same("exp", x.exp(0, 0), 2);
        CHECKS.isFlow("exp of x2", x, 0, 1, 1, 1, 1, 1);
        CHECKS.isField("the field stays", x, 0, 1);
        Setup.putField(x, 1, 1, -1, Setup.over(3, 2), Setup.over(-8, 3), Setup.over(31, 6));
        CHECKS.same("exp", x.exp(1, 2), 2);
        CHECKS.isFlow("exp back", x, 2, 1);
        CHECKS.same("exp of 0", x.exp(5, 2), LineFields.NONE);
        CHECKS.isFlow("exp of 0", x, 2);
        CHECKS.same("paid", x.count(4), 90);
        x.cut(3);
        Setup.putField(x, 3, 0, 4);
        CHECKS.same("exp of 4x3 cut at 3", x.exp(3, 3), 3);
        CHECKS.isFlow("exp of 4x3 cut at 3", x, 3, 0, 4);
    }

    private static void compose() {
        LineFields x = Setup.cutAt(6);
        Setup.putFlow(x, 0, 1);
        Setup.putFlow(x, 1, 0, 1);
        CHECKS.same("first x + x2", x.compose(0, 1, 2), 2);
        CHECKS.isFlow("first x + x2", x, 2, 1, 1, 3, 3, 1);
        CHECKS.same("first x + x3", x.compose(1, 0, 0), 2);
        CHECKS.isFlow("first x + x3", x, 0, 1, 1, 2, 0, 1);
        CHECKS.same("x", x.compose(4, 5, 0), LineFields.NONE);
        CHECKS.isFlow("x", x, 0);
        CHECKS.same("paid", x.count(4), 72);
    }

    private static void invert() {
        LineFields x = Setup.cutAt(6);
        Setup.putFlow(x, 0, 1);
        CHECKS.same("inverse", x.invert(0, 1), 2);
        CHECKS.isFlow("inverse of x + x2", x, 1, -1, 2, -5, 14, -42);
        CHECKS.same("back, in its slot", x.invert(1, 1), 2);
        CHECKS.isFlow("back", x, 1, 1);
        CHECKS.same("inverse of x", x.invert(5, 1), LineFields.NONE);
        CHECKS.isFlow("inverse of x", x, 1);
        CHECKS.same("paid", x.count(4), 72);
    }

    private static void geometric(String what, LineFields x, int slot, int ratio) {
        int[] due = new int[5];
        long power = 1;
        for (int i = 0; i < 5; i++) {
            power = Math.floorMod(power * ratio, P);
            due[i] = (int) power;
        }
        CHECKS.isFlow(what, x, slot, due);
    }

    private static void power() {
        LineFields x = Setup.cutAt(6);
        x.earn(1000);
        Setup.putFlow(x, 0, 1, 1, 1, 1, 1);
        for (int n : new int[] {2, -1, 1, 5000, -5000, 4999}) {
            CHECKS.same("power " + n, x.power(0, n, 1), 2);
            geometric("power " + n, x, 1, n);
        }
        CHECKS.same("power 0", x.power(0, 0, 0), LineFields.NONE);
        CHECKS.isFlow("power 0", x, 0);
        CHECKS.same("paid", x.count(4), 7 * 48);
        Setup.putFlow(x, 2, 1);
        CHECKS.same("in its slot", x.power(2, 2, 2), 2);
        CHECKS.isFlow("x + x2 twice", x, 2, 2, 2, 1);
    }

    private static void root() {
        LineFields x = Setup.cutAt(6);
        x.earn(1000);
        Setup.putFlow(x, 0, 6, 36, 216, 1296, 7776);
        CHECKS.same("root 3", x.root(0, 3, 1), 2);
        geometric("root 3", x, 1, 2);
        CHECKS.same("root 1", x.root(0, 1, 1), 2);
        geometric("root 1", x, 1, 6);
        CHECKS.same("root 5000", x.root(0, 5000, 1), 2);
        geometric("root 5000", x, 1, Setup.over(6, 5000));
        Setup.putFlow(x, 2, 2, 2, 1);
        CHECKS.same("in its slot", x.root(2, 2, 2), 2);
        CHECKS.isFlow("half of x + x2 twice", x, 2, 1);
        CHECKS.same("root of x", x.root(5, 7, 2), LineFields.NONE);
        CHECKS.isFlow("root of x", x, 2);
        CHECKS.same("paid", x.count(4), 5 * 48);
        for (int n : new int[] {2, 5, 7, 11, 13, 17, 4999}) {
            x.earn(1000);
            CHECKS.same("root " + n, x.root(0, n, 1), 2);
            geometric("root " + n, x, 1, Setup.over(6, n));
        }
    }

    // ---- promises 19 and 20

    private static void wrongAt(String text, int place) {
        LineFields x = Setup.typed(text);
        long before = x.digest();
        CHECKS.same("first error of " + text, x.firstError(), place);
        CHECKS.same("first error of " + text + " changes nothing", x.digest(), before);
        CHECKS.throwing("run of " + text, x, ARGUMENT, x::run);
        CHECKS.same("the buffer stays", x.clearBuffer(), text.length());
    }

    private static void firstError() {
        wrongAt("", 0);
        for (char letter = 33; letter <= 126; letter++) {
            int digits = "bscwp".indexOf(letter) >= 0 ? 2 : "eli".indexOf(letter) >= 0 ? 1 : 0;
            wrongAt(letter + "5", digits == 0 ? 0 : 2);
            wrongAt(letter + "55", digits == 0 ? 0 : digits == 1 ? 2 : 3);
            wrongAt(letter + "5>", digits == 0 ? 0 : digits == 1 ? 3 : 2);
        }
        for (char sign = 33; sign <= 126; sign++) {
            boolean slot = sign >= '0' && sign <= '5';
            wrongAt("b" + sign, slot ? 2 : 1);
            wrongAt("b0" + sign, slot ? 3 : 2);
            wrongAt("b00" + sign, sign == '>' ? 4 : 3);
            if (!slot) {
                wrongAt("b00>" + sign, 4);
                wrongAt("e0>" + sign, 3);
            }
            wrongAt("e0>0" + sign, sign == ';' ? 5 : 4);
            wrongAt("e0>0;" + sign, "bscwpeli".indexOf(sign) >= 0 ? 6 : 5);
        }
        wrongAt("b01>2;e0>1;", 11);
        wrongAt("b01>2;e0>1;;", 11);
        wrongAt("b01>2;e0>15", 10);
        wrongAt(";", 0);
        wrongAt("e0>1;x??", 5);
        LineFields whole = Setup.typed("b01>2;e0>1");
        CHECKS.same("a program has no error", whole.firstError(), 10);
    }

    private static void run() {
        LineFields x = new LineFields();
        Setup.putField(x, 0, 1);
        Setup.putField(x, 1, 0, 1);
        Setup.type(x, "b01>2;s02>3;w01>4;e3>0;l0>5;e1>1;c10>2;i2>3;p01>1");
        CHECKS.same("run", x.run(), 9);
        CHECKS.same("clears the buffer", x.clearBuffer(), 0);
        CHECKS.same("brackets", x.count(6), 1);
        CHECKS.same("done", x.count(5), 9);
        CHECKS.same("paid", x.count(4), 5 * (2 + 1 + 20 + 5 + 6 + 5 + 4 + 4 + 6));
        LineFields y = new LineFields();
        Setup.putField(y, 0, 1);
        Setup.putField(y, 1, 0, 1);
        y.bracket(0, 1, 2);
        y.sum(0, 2, 3);
        y.byBrackets(0, 1, 4);
        y.exp(3, 0);
        y.log(0, 5);
        y.exp(1, 1);
        y.compose(1, 0, 2);
        y.invert(2, 3);
        y.push(0, 1, 1);
        while (x.count(8) < y.count(8)) {
            x.cut(5);
        }
        CHECKS.same("run as by the calls", x.digest(), y.digest());
    }

    // ---- promises 27 to 29

    private static void clash() {
        LineFields x = Setup.cutAt(6);
        Setup.putField(x, 0, 1);
        Setup.putField(x, 1, 0, 1);
        Setup.putField(x, 2, 5, 0, 0, 1);
        CHECKS.same("x2 and x3", x.clash(0, 1), 4);
        CHECKS.same("x3 and x2", x.clash(1, 0), 4);
        CHECKS.same("x2 and 5x2 + x5", x.clash(0, 2), 6);
        CHECKS.same("with itself", x.clash(2, 2), LineFields.NONE);
        CHECKS.same("with 0", x.clash(0, 5), LineFields.NONE);
        CHECKS.same("no bracket is counted", x.count(6), 0);
        CHECKS.same("nothing is paid", x.count(4), 0);
        x.cut(5);
        CHECKS.same("cut at 5", x.clash(0, 2), LineFields.NONE);
    }

    private static void apart() {
        LineFields x = Setup.cutAt(6);
        Setup.putFlow(x, 0, 1);
        Setup.putFlow(x, 1, 0, 1);
        Setup.putFlow(x, 2, 1, 1, 1, 1, 1);
        Setup.putFlow(x, 3, 7, 49, 343, 2401, 16807);
        CHECKS.same("x + x2 and x + x3", x.apart(0, 1), 4);
        CHECKS.same("the other way", x.apart(1, 0), 4);
        CHECKS.same("of one field", x.apart(2, 3), LineFields.NONE);
        CHECKS.same("with itself", x.apart(0, 0), LineFields.NONE);
        CHECKS.same("with x", x.apart(0, 5), LineFields.NONE);
        CHECKS.same("nothing is paid", x.count(4), 0);
        x.cut(3);
        CHECKS.same("cut at 3", x.apart(0, 1), LineFields.NONE);
    }

    private static void differs() {
        LineFields x = Setup.cutAt(6);
        Setup.putField(x, 0, 1, 1);
        Setup.putField(x, 1, 1);
        int[] due = {4, 6, 6, LineFields.NONE};
        for (int k = 2; k <= 5; k++) {
            CHECKS.same("differs " + k, x.differs(0, 1, k), due[k - 2]);
            CHECKS.same("with itself " + k, x.differs(0, 0, k), LineFields.NONE);
            CHECKS.same("with 0 " + k, x.differs(0, 5, k), LineFields.NONE);
        }
        Setup.putField(x, 2, 0, 1);
        CHECKS.same("x2 and x3, 3", x.differs(1, 2, 3), 5);
        CHECKS.same("x2 and x3, 4", x.differs(1, 2, 4), LineFields.NONE);
        CHECKS.same("nothing is paid", x.count(4), 0);
        x.cut(5);
        CHECKS.same("cut at 5", x.differs(0, 1, 3), LineFields.NONE);
    }
}
