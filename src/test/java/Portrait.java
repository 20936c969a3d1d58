import java.util.function.LongSupplier;

/** All that calls can show of an object, in some 250 calls that use it up: looks, then undo, restore and run. */
final class Portrait {
    private static final int SLOTS = 6;
    private final LineFields x;
    private final StringBuilder seen = new StringBuilder();

    private Portrait(LineFields x) {
        this.x = x;
    }

    static String of(LineFields x) {
        Portrait portrait = new Portrait(x);
        portrait.looks();
        portrait.savedStates();
        portrait.snapshots();
        portrait.buffer();
        return portrait.seen.toString();
    }

    /** What looks alone show; they leave the object as it is. */
    static String looksAt(LineFields x) {
        Portrait portrait = new Portrait(x);
        portrait.looks();
        return portrait.seen.toString();
    }

    private void tell(String what, LongSupplier call) {
        seen.append(what).append('=');
        try {
            seen.append(call.getAsLong());
        } catch (RuntimeException e) {
            seen.append(e.getClass().getSimpleName());
        }
        seen.append('\n');
    }

    private void looks() {
        for (int what = 0; what <= 8; what++) {
            int number = what;
            tell("count", () -> x.count(number));
        }
        for (char letter : "bscweilp".toCharArray()) {
            tell("lacks", () -> x.lacks(letter));
        }
        tell("density", () -> Double.doubleToLongBits(x.density()));
        tell("firstError", x::firstError);
        for (int slot = 0; slot < SLOTS; slot++) {
            rows(slot);
            pairs(slot, (slot + 1) % SLOTS);
        }
        tell("digest", x::digest);
    }

    private void rows(int slot) {
        for (int power = 0; power <= 6; power++) {
            int which = power;
            tell("field", () -> x.field(slot, which));
            tell("flow", () -> x.flow(slot, which));
        }
        tell("field at 2", () -> x.value(0, slot, 2));
        tell("flow at -1", () -> x.value(1, slot, -1));
    }

    private void pairs(int slot, int other) {
        tell("clash", () -> x.clash(slot, other));
        tell("apart", () -> x.apart(slot, other));
        for (int k = 2; k <= 5; k++) {
            int much = k;
            tell("differs", () -> x.differs(slot, other, much));
        }
    }

    private void savedStates() {
        for (int i = 0; i < 7; i++) {
            tell("undo", x::undo);
            tell("digest", x::digest);
        }
    }

    private void snapshots() {
        tell("restore 0", () -> x.restore(0));
        tell("digest", x::digest);
        tell("restore 1", () -> x.restore(1));
        tell("digest", x::digest);
    }

    private void buffer() {
        tell("run", x::run);
        tell("digest", x::digest);
        tell("clearBuffer", x::clearBuffer);
        tell("digest", x::digest);
    }
}
