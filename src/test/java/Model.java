import java.math.BigInteger;
import java.util.ArrayDeque;
import java.util.Arrays;
import java.util.Deque;
import java.util.function.Supplier;
import java.util.regex.Matcher;
import java.util.regex.Pattern;

/**
 * The document once more, slowly and by other ways than LineFields: series in place of solving power by power, powers
 * by composing again and again, roots by looking for them, and the syntax by a pattern.
 */
final class Model {
    static final int P = 10007;
    private static final String ORDER = "(?:[bscwp][0-5][0-5]|[eli][0-5])>[0-5]";
    private static final Pattern PROGRAM = Pattern.compile(ORDER + "(?:;" + ORDER + ")*");

    private static final class Kept {
        int cut = 5;
        long[][] fields = new long[6][7];
        long[][] flows = new long[6][7];
        int purse = 500;
        int paid;
        int done;
        int brackets;

        Kept copy() {
            Kept k = new Kept();
            k.cut = cut;
            k.purse = purse;
            k.paid = paid;
            k.done = done;
            k.brackets = brackets;
            for (int i = 0; i < 6; i++) {
                k.fields[i] = fields[i].clone();
                k.flows[i] = flows[i].clone();
            }
            return k;
        }
    }

    private Kept now = new Kept();
    private final Deque<Kept> saved = new ArrayDeque<>();
    private final Kept[] snapshots = new Kept[2];
    private final StringBuilder buffer = new StringBuilder();

    Model() {
        for (long[] flow : now.flows) {
            flow[1] = 1;
        }
    }

    // ---- polynomials, cut after each step

    private long[] cutOff(long[] p) {
        long[] out = new long[7];
        for (int i = 0; i <= now.cut; i++) {
            out[i] = Math.floorMod(p[i], P);
        }
        return out;
    }

    private long[] plus(long[] p, long[] q, long by) {
        long[] out = new long[7];
        for (int i = 0; i < 7; i++) {
            out[i] = p[i] + Math.floorMod(by, P) * q[i];
        }
        return cutOff(out);
    }

    private long[] times(long[] p, long[] q) {
        long[] out = new long[7];
        for (int i = 0; i < 7; i++) {
            for (int j = 0; i + j < 7; j++) {
                out[i + j] += p[i] * q[j];
            }
        }
        return cutOff(out);
    }

    private static long[] derivative(long[] p) {
        long[] out = new long[7];
        for (int i = 1; i < 7; i++) {
            out[i - 1] = i * p[i] % P;
        }
        return out;
    }

    private static long[] theX() {
        return new long[] {0, 1, 0, 0, 0, 0, 0};
    }

    /** outer(inner(x)) */
    private long[] into(long[] outer, long[] inner) {
        long[] out = new long[7];
        long[] power = {1, 0, 0, 0, 0, 0, 0};
        for (int i = 0; i < 7; i++) {
            out = plus(out, power, outer[i]);
            power = times(power, inner);
        }
        return out;
    }

    private static long inverseNumber(long n) {
        return BigInteger.valueOf(n).modInverse(BigInteger.valueOf(P)).longValue();
    }

    private long[] bracketOf(long[] f, long[] g) {
        return plus(times(f, derivative(g)), times(g, derivative(f)), -1);
    }

    private long[] expOf(long[] f) {
        long[] out = theX();
        long[] term = theX();
        long factorial = 1;
        for (int n = 1; n <= 6; n++) {
            factorial *= n;
            term = times(f, derivative(term));
            out = plus(out, term, inverseNumber(factorial));
        }
        return out;
    }

    /** With A for putting the flow in: the sum of (A - 1) to the n, of x, with signs that change, divided by n. */
    private long[] logOf(long[] flow) {
        long[] out = new long[7];
        long[] term = theX();
        for (int n = 1; n <= 6; n++) {
            term = plus(into(term, flow), term, -1);
            out = plus(out, term, (n % 2 == 1 ? 1 : -1) * inverseNumber(n));
        }
        return out;
    }

    /** The sum of (1 - A) to the n, of x. */
    private long[] inverseOf(long[] flow) {
        long[] out = theX();
        long[] term = theX();
        for (int n = 1; n <= 6; n++) {
            term = plus(term, into(term, flow), -1);
            out = plus(out, term, 1);
        }
        return out;
    }

    private long[] powerOf(long[] flow, int n) {
        long[] step = n < 0 ? inverseOf(flow) : flow;
        long[] out = theX();
        for (int i = 0; i < Math.abs(n); i++) {
            out = into(step, out);
        }
        return out;
    }

    private long[] fastPowerOf(long[] flow, int n) {
        if (n == 0) {
            return theX();
        }
        long[] half = fastPowerOf(flow, n / 2);
        long[] even = into(half, half);
        return n % 2 == 0 ? even : into(flow, even);
    }

    private long[] rootOf(long[] flow, int n) {
        long[] out = theX();
        for (int k = 2; k <= now.cut; k++) {
            long missing = flow[k] - fastPowerOf(out, n)[k];
            out[k] = Math.floorMod(missing * inverseNumber(n), P);
        }
        return out;
    }

    private long[] pushOf(long[] flow, long[] f) {
        long[] back = inverseOf(flow);
        return times(into(derivative(flow), back), into(f, back));
    }

    private long[] second(long[] a, long[] b, int k) {
        long[] w = bracketOf(a, b);
        long[] out = plus(a, b, 1);
        if (k >= 3) {
            out = plus(out, w, inverseNumber(2));
        }
        if (k >= 4) {
            out = plus(out, plus(bracketOf(a, w), bracketOf(b, w), -1), inverseNumber(12));
        }
        if (k >= 5) {
            out = plus(out, bracketOf(b, bracketOf(a, w)), -inverseNumber(24));
        }
        return out;
    }

    private static int lowest(long[] p) {
        for (int i = 2; i < 7; i++) {
            if (p[i] != 0) {
                return i;
            }
        }
        return -1;
    }

    private int lowestApart(long[] p, long[] q) {
        return lowest(plus(p, q, -1));
    }

    // ---- tests of arguments, in the order in which exceptions are named

    private static void slots(int... slots) {
        for (int slot : slots) {
            if (slot < 0 || slot > 5) {
                throw new IndexOutOfBoundsException();
            }
        }
    }

    private static void index(boolean fine) {
        if (!fine) {
            throw new IndexOutOfBoundsException();
        }
    }

    private static void argument(boolean fine) {
        if (!fine) {
            throw new IllegalArgumentException();
        }
    }

    private static void state(boolean fine) {
        if (!fine) {
            throw new IllegalStateException();
        }
    }

    private void save() {
        saved.addLast(now.copy());
        if (saved.size() > 6) {
            saved.removeFirst();
        }
    }

    // ---- the calls

    int cut(int c) {
        argument(c >= 2 && c <= 6);
        save();
        int before = now.cut;
        now.cut = c;
        for (int i = 0; i < 6; i++) {
            now.fields[i] = cutOff(now.fields[i]);
            now.flows[i] = cutOff(now.flows[i]);
        }
        return before;
    }

    int set(boolean flow, int slot, int power, int value) {
        slots(slot);
        index(power >= 2 && power <= now.cut);
        save();
        long[] row = (flow ? now.flows : now.fields)[slot];
        int before = (int) row[power];
        row[power] = Math.floorMod(value, P);
        return before;
    }

    int earn(int money) {
        argument(money >= 1 && money <= 1000);
        state(now.purse + money <= 100000);
        save();
        now.purse += money;
        return now.purse;
    }

    private int units(char deed) {
        return switch (deed) {
            case 'b' -> 2;
            case 's', 'm' -> 1;
            case 'e' -> 5;
            case 'l', 'p' -> 6;
            case 'c', 'i' -> 4;
            case 'n', 'r' -> 8;
            default -> 20;
        };
    }

    private long[] made(char deed, int first, int second) {
        return switch (deed) {
            case 'b' -> bracketOf(now.fields[first], now.fields[second]);
            case 's' -> plus(now.fields[first], now.fields[second], 1);
            case 'm' -> plus(new long[7], now.fields[first], second);
            case 'w' -> second(now.fields[first], now.fields[second], 5);
            case 'p' -> pushOf(now.flows[first], now.fields[second]);
            case 'l' -> logOf(now.flows[first]);
            case 'e' -> expOf(now.fields[first]);
            case 'c' -> into(now.flows[second], now.flows[first]);
            case 'i' -> inverseOf(now.flows[first]);
            case 'n' -> powerOf(now.flows[first], second);
            default -> rootOf(now.flows[first], second);
        };
    }

    private int pay(char deed, int first, int second, int to) {
        int cost = units(deed) * now.cut;
        now.purse -= cost;
        now.paid += cost;
        now.done++;
        now.brackets += deed == 'b' ? 1 : 0;
        long[] result = made(deed, first, second);
        ("ecinr".indexOf(deed) >= 0 ? now.flows : now.fields)[to] = result;
        return lowest(result);
    }

    /** One deed: m is a multiple, n a power, r a root, and the others are the letters of orders. */
    int deed(char deed, int first, int second, int to) {
        slots(first, to);
        if ("bswpc".indexOf(deed) >= 0) {
            slots(second);
        }
        argument(deed != 'n' || Math.abs((long) second) <= 5000);
        argument(deed != 'r' || second >= 1 && second <= 5000);
        state(now.purse >= units(deed) * now.cut);
        save();
        return pay(deed, first, second, to);
    }

    int append(int code) {
        argument(code >= 33 && code <= 126);
        state(buffer.length() < 60);
        buffer.append((char) code);
        return buffer.length();
    }

    int clearBuffer() {
        int length = buffer.length();
        buffer.setLength(0);
        return length;
    }

    int firstError() {
        for (int i = 1; i <= buffer.length(); i++) {
            Matcher m = PROGRAM.matcher(buffer.substring(0, i));
            if (!m.matches() && !m.hitEnd()) {
                return i - 1;
            }
        }
        return buffer.length();
    }

    int run() {
        argument(PROGRAM.matcher(buffer).matches());
        save();
        int done = 0;
        for (String order : buffer.toString().split(";")) {
            char letter = order.charAt(0);
            if (now.purse < units(letter) * now.cut) {
                break;
            }
            int first = order.charAt(1) - '0';
            int second = order.charAt(2) == '>' ? first : order.charAt(2) - '0';
            pay(letter, first, second, order.charAt(order.length() - 1) - '0');
            done++;
        }
        buffer.setLength(0);
        return done;
    }

    int take(int snapshot) {
        index(snapshot == 0 || snapshot == 1);
        snapshots[snapshot] = now.copy();
        return count(2);
    }

    int restore(int snapshot) {
        index(snapshot == 0 || snapshot == 1);
        state(snapshots[snapshot] != null);
        save();
        Kept from = snapshots[snapshot].copy();
        now.cut = from.cut;
        now.fields = from.fields;
        now.flows = from.flows;
        return count(2);
    }

    int undo() {
        state(!saved.isEmpty());
        now = saved.removeLast();
        return saved.size();
    }

    int coefficient(boolean flow, int slot, int power) {
        slots(slot);
        index(power >= 0 && power <= 6);
        return (int) (flow ? now.flows : now.fields)[slot][power];
    }

    int value(int what, int slot, int x) {
        slots(slot);
        argument(what == 0 || what == 1);
        long[] row = (what == 1 ? now.flows : now.fields)[slot];
        long sum = 0;
        long power = 1;
        for (int i = 0; i < 7; i++) {
            sum += row[i] * power;
            power = power * Math.floorMod(x, P) % P;
        }
        return (int) (sum % P);
    }

    int clash(int f, int g) {
        slots(f, g);
        return lowest(bracketOf(now.fields[f], now.fields[g]));
    }

    int apart(int a, int b) {
        slots(a, b);
        return lowestApart(into(now.flows[b], now.flows[a]), into(now.flows[a], now.flows[b]));
    }

    int differs(int a, int b, int k) {
        slots(a, b);
        argument(k >= 2 && k <= 5);
        long[] composed = into(expOf(now.fields[b]), expOf(now.fields[a]));
        return lowestApart(second(now.fields[a], now.fields[b], k), logOf(composed));
    }

    int lacks(int order) {
        argument(order > 0 && order < 128 && "bscwelip".indexOf((char) order) >= 0);
        return Math.max(0, units((char) order) * now.cut - now.purse);
    }

    int count(int what) {
        argument(what >= 0 && what <= 8);
        int fields = (int) Arrays.stream(now.fields).filter(f -> lowest(f) != -1).count();
        int flows = (int) Arrays.stream(now.flows).filter(f -> lowest(f) != -1).count();
        int taken = (snapshots[0] == null ? 0 : 1) + (snapshots[1] == null ? 0 : 1);
        int[] counts = {now.cut, now.purse, fields, flows, now.paid, now.done, now.brackets, taken, saved.size()};
        return counts[what];
    }

    double density() {
        long set = Arrays.stream(now.fields).flatMapToLong(Arrays::stream).filter(c -> c != 0).count();
        return (double) set / (6 * (now.cut - 1));
    }

    long digest() {
        long hash = 2473;
        for (int what = 0; what < 9; what++) {
            hash = 31 * hash + count(what);
        }
        for (int slot = 0; slot < 6; slot++) {
            for (boolean flow : new boolean[] {false, true}) {
                for (int power = 2; power < 7; power++) {
                    hash = 31 * hash + coefficient(flow, slot, power);
                }
            }
            hash = 31 * hash + value(0, slot, 3);
            hash = 31 * hash + value(1, slot, 3);
            hash = 31 * hash + clash(slot, 0);
            hash = 31 * hash + apart(slot, 0);
            for (int k = 2; k <= 5; k++) {
                hash = 31 * hash + differs(0, slot, k);
            }
        }
        hash = 31 * hash + Double.doubleToLongBits(density());
        hash = 31 * hash + buffer.length();
        for (int i = 0; i < buffer.length(); i++) {
            hash = 31 * hash + buffer.charAt(i);
        }
        return hash;
    }

    /** What a call answers, or the name of what it throws. */
    static String told(Supplier<Number> call) {
        try {
            return call.get().toString();
        } catch (RuntimeException e) {
            return "throws." + e.getClass().getSimpleName();
        }
    }
}
