import java.util.function.IntUnaryOperator;
import java.util.function.LongSupplier;

/** Counts and prints the answers that are not the ones that are due. */
final class Checks {
    private int made;
    private int wrong;

    void same(String what, long got, long due) {
        made++;
        if (got != due) {
            wrong++;
            System.out.println(what + ": answered " + got + ", due is " + due);
        }
    }

    void same(String what, String got, String due) {
        made++;
        if (!got.equals(due)) {
            wrong++;
            System.out.println(what + ": " + got + ", due is " + due);
        }
    }

    /** The coefficients of the powers from 2 on; those that are not told are 0. */
    void isField(String what, LineFields x, int slot, int... coefficients) {
        same(what + ", field " + slot, row(power -> x.field(slot, power)), rowDue(0, coefficients));
    }

    void isFlow(String what, LineFields x, int slot, int... coefficients) {
        same(what + ", flow " + slot, row(power -> x.flow(slot, power)), rowDue(1, coefficients));
    }

    private static String row(IntUnaryOperator coefficient) {
        StringBuilder row = new StringBuilder();
        for (int power = 0; power <= 6; power++) {
            row.append(coefficient.applyAsInt(power)).append(' ');
        }
        return row.toString();
    }

    private static String rowDue(int ofX, int[] coefficients) {
        return row(power -> power == 1 ? ofX : power < 2 || power - 2 >= coefficients.length ? 0
                : Math.floorMod(coefficients[power - 2], Setup.P));
    }

    /** The call throws exactly this exception, and changes nothing that the digest tells. */
    void throwing(String what, LineFields on, Class<? extends RuntimeException> due, LongSupplier call) {
        long before = on.digest();
        String got;
        try {
            got = "answered " + call.getAsLong();
        } catch (RuntimeException e) {
            got = e.getClass().getSimpleName();
        }
        same(what, got, due.getSimpleName());
        same(what + " changes nothing", on.digest(), before);
    }

    void end(String test) {
        System.out.println(test + ": " + made + " checks, " + wrong + " wrong");
        if (wrong != 0) {
            System.exit(1);
        }
    }
}
