/** Makes objects that stand in a state of a test's choosing. */
final class Setup {
    static final int P = 10007;

    private Setup() {
    }

    static LineFields cutAt(int c) {
        LineFields x = new LineFields();
        x.cut(c);
        return x;
    }

    /** Sets the coefficients of the powers from 2 on. */
    static void putField(LineFields x, int slot, int... coefficients) {
        for (int i = 0; i < coefficients.length; i++) {
            x.setField(slot, i + 2, coefficients[i]);
        }
    }

    static void putFlow(LineFields x, int slot, int... coefficients) {
        for (int i = 0; i < coefficients.length; i++) {
            x.setFlow(slot, i + 2, coefficients[i]);
        }
    }

    static void type(LineFields x, String text) {
        for (int i = 0; i < text.length(); i++) {
            x.append(text.charAt(i));
        }
    }

    static LineFields typed(String text) {
        LineFields x = new LineFields();
        type(x, text);
        return x;
    }

    /** The quotient by a number, found by looking for it. */
    static int over(int number, int by) {
        for (int quotient = 0; quotient < P; quotient++) {
            if (Math.floorMod((long) quotient * by - number, P) == 0) {
                return quotient;
            }
        }
        throw new IllegalStateException("no quotient");
    }

    /** Leaves exactly so much in the purse, and room for one saved state more. */
    static LineFields withPurse(int c, int money) {
        LineFields x = cutAt(2);
        if (money % 2 != 0) {
            x.earn(1);
        }
        while (x.count(1) - money >= 40) {
            x.byBrackets(5, 5, 5);
        }
        while (x.count(1) > money) {
            x.sum(5, 5, 5);
        }
        x.cut(c);
        x.cut(c);
        x.undo();
        return x;
    }

    /** Holds all that a purse can. */
    static LineFields rich() {
        LineFields x = new LineFields();
        for (int i = 0; i < 99; i++) {
            x.earn(1000);
        }
        x.earn(500);
        return x;
    }

    /** No two slots are alike, and each has every power up to 6. */
    static LineFields filled() {
        LineFields x = cutAt(6);
        for (int slot = 0; slot < 6; slot++) {
            putField(x, slot, fieldOf(slot));
            putFlow(x, slot, flowOf(slot));
        }
        return x;
    }

    static Model filledModel() {
        Model m = new Model();
        m.cut(6);
        for (int slot = 0; slot < 6; slot++) {
            for (int power = 2; power <= 6; power++) {
                m.set(false, slot, power, fieldOf(slot)[power - 2]);
            }
            for (int power = 2; power <= 6; power++) {
                m.set(true, slot, power, flowOf(slot)[power - 2]);
            }
        }
        return m;
    }

    static int[] fieldOf(int slot) {
        return new int[] {slot + 1, (slot + 1) * (slot + 2), 3 - 7 * slot, 10006 - slot, 17 * slot + 4};
    }

    static int[] flowOf(int slot) {
        return new int[] {2 * slot - 5, slot * slot + 1, 9, -2 - slot, 100 * slot + 31};
    }

    /** Six states are saved, both snapshots are taken, and half a program stands in the buffer. */
    static LineFields busy() {
        LineFields x = filled();
        x.take(0);
        x.cut(5);
        x.bracket(0, 1, 2);
        x.exp(3, 4);
        x.take(1);
        x.push(1, 2, 3);
        x.earn(333);
        x.setField(5, 2, 9);
        x.compose(4, 0, 0);
        type(x, "b01>2;e0>");
        return x;
    }

    /** Nothing is left in the purse, one state is saved, one snapshot is taken, and the buffer is full. */
    static LineFields poor() {
        LineFields x = withPurse(2, 0);
        x.cut(6);
        putField(x, 0, 1, 2, 3, 4, 5);
        putFlow(x, 0, 5, 4, 3, 2, 1);
        x.take(1);
        for (int i = 0; i < 6; i++) {
            x.undo();
        }
        x.restore(1);
        type(x, FULL_PROGRAM);
        return x;
    }

    /** Twelve orders in sixty characters. */
    static final String FULL_PROGRAM = "s00>0;e0>1;e0>1;e0>1;e0>1;e0>1;e0>1;e0>1;e0>1;e0>1;e0>1;e0>1";
}
