import java.util.function.LongSupplier;

/** Counts and prints the answers that are not the ones that are due. */
final class Checks {
    private int made;
    private int wrong;

    void same(String what, long got, long due) {
        made++;
        if (got != due) {
            wrong++;
            System.out.println(what + ": answered " + got + ", due is " + due);
        }
    }

    void same(String what, String got, String due) {
        made++;
        if (!got.equals(due)) {
            wrong++;
            System.out.println(what + ": " + got + ", due is " + due);
        }
    }

    /** The call throws exactly this exception, and changes nothing that the digest tells. */
    void throwing(String what, LineFields on, Class<? extends RuntimeException> due, LongSupplier call) {
        long before = on.digest();
        String got;
        try {
            got = "answered " + call.getAsLong();
        } catch (RuntimeException e) {
            got = e.getClass().getSimpleName();
        }
        same(what, got, due.getSimpleName());
        same(what + " changes nothing", on.digest(), before);
    }

    /** The call saves one state, and undo brings back all that was before it. */
    void undoable(String what, LineFields on, LongSupplier call) {
        long before = on.digest();
        int saved = on.count(8);
        call.getAsLong();
        same(what + " saves a state", on.count(8), saved + 1);
        same(what + " undone leaves", on.undo(), saved);
        same(what + " undone", on.digest(), before);
    }

    void end(String test) {
        System.out.println(test + ": " + made + " checks, " + wrong + " wrong");
        if (wrong != 0) {
            System.exit(1);
        }
    }
}
