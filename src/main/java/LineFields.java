import java.util.Arrays;

/** Fields and flows on a line that are cut at a power, with work that is paid for, programs, snapshots and undo. */
public final class LineFields {
    /** There is nothing to return. */
    public static final int NONE = -1;

    private static final int PRIME = 10007;
    private static final int PRIME_BITS = 14;
    private static final int SLOTS = 6;
    private static final int LEAST_POWER = 2;
    private static final int MOST_POWER = 6;
    private static final int ROW_LENGTH = MOST_POWER + 1;
    private static final int FIRST_CUT = 5;
    private static final int FIRST_PURSE = 500;
    private static final int MOST_PURSE = 100000;
    private static final int MOST_EARNED = 1000;
    private static final int MOST_REPEATS = 5000;
    private static final int SCALE_UNITS = 1;
    private static final int REPEAT_UNITS = 8;
    private static final int LEAST_WAY = 2;
    private static final int WHOLE_WAY = 5;
    private static final int LEAST_CODE = 33;
    private static final int MOST_CODE = 126;
    private static final int BUFFER_ROOM = 60;
    private static final int SNAPSHOTS = 2;
    private static final int MOST_SAVED = 6;
    private static final int COUNTS = 9;
    private static final int DIGEST_X = 3;
    private static final long FIRST_HASH = 2473;
    private static final long HASH_FACTOR = 31;
    private static final int MANTISSA_BITS = 52;
    private static final int EXPONENT_OF_ONE = 1023;

    private final State now;
    private final History history;
    private final Shape[] snapshots;
    private final boolean[] taken;
    private final Text buffer;
    private final Reckoner reckoner;
    private final int[] result;
    private final int[] compared;

    public LineFields() {
        now = new State();
        history = new History();
        snapshots = new Shape[SNAPSHOTS];
        for (int i = 0; i < SNAPSHOTS; i++) {
            snapshots[i] = new Shape();
        }
        taken = new boolean[SNAPSHOTS];
        buffer = new Text();
        reckoner = new Reckoner();
        result = new int[ROW_LENGTH];
        compared = new int[ROW_LENGTH];
    }

    // ---- cut, coefficients, purse

    public int cut(int c) throws IllegalArgumentException {
        if (c < LEAST_POWER || c > MOST_POWER) {
            throw new IllegalArgumentException("the cut is 2 to 6");
        }
        history.save(now);
        int previous = now.shape.cut;
        now.shape.cutAt(c);
        return previous;
    }

    public int setField(int slot, int power, int value) throws IndexOutOfBoundsException {
        needSlot(slot);
        needPower(power, LEAST_POWER, now.shape.cut);
        history.save(now);
        return replace(now.shape.fields[slot], power, value);
    }

    public int setFlow(int slot, int power, int value) throws IndexOutOfBoundsException {
        needSlot(slot);
        needPower(power, LEAST_POWER, now.shape.cut);
        history.save(now);
        return replace(now.shape.flows[slot], power, value);
    }

    public int earn(int money) throws IllegalArgumentException, IllegalStateException {
        if (money < 1 || money > MOST_EARNED) {
            throw new IllegalArgumentException("money is 1 to 1000");
        }
        if (now.purse > MOST_PURSE - money) {
            throw new IllegalStateException("the purse holds at most 100000");
        }
        history.save(now);
        now.purse += money;
        return now.purse;
    }

    // ---- fields from fields; each returns the lowest power of the result, NONE if it is 0

    public int bracket(int f, int g, int to) throws IndexOutOfBoundsException, IllegalStateException {
        return orderAlone('b', f, g, to);
    }

    public int sum(int f, int g, int to) throws IndexOutOfBoundsException, IllegalStateException {
        return orderAlone('s', f, g, to);
    }

    public int scale(int f, int by, int to) throws IndexOutOfBoundsException, IllegalStateException {
        needSlot(f);
        needSlot(to);
        needMoney(SCALE_UNITS);
        history.save(now);
        pay(SCALE_UNITS);
        Reckoner.scaleRow(now.shape.fields[f], Math.floorMod(by, PRIME), result);
        return put(now.shape.fields[to]);
    }

    public int byBrackets(int a, int b, int to) throws IndexOutOfBoundsException, IllegalStateException {
        return orderAlone('w', a, b, to);
    }

    public int push(int flow, int f, int to) throws IndexOutOfBoundsException, IllegalStateException {
        return orderAlone('p', flow, f, to);
    }

    public int log(int flow, int to) throws IndexOutOfBoundsException, IllegalStateException {
        return orderAlone('l', flow, flow, to);
    }

    // ---- flows from fields and flows; each returns the lowest power above 1 of the result, NONE if it is x

    public int exp(int f, int to) throws IndexOutOfBoundsException, IllegalStateException {
        return orderAlone('e', f, f, to);
    }

    public int compose(int a, int b, int to) throws IndexOutOfBoundsException, IllegalStateException {
        return orderAlone('c', a, b, to);
    }

    public int invert(int a, int to) throws IndexOutOfBoundsException, IllegalStateException {
        return orderAlone('i', a, a, to);
    }

    public int power(int a, int n, int to)
            throws IndexOutOfBoundsException, IllegalArgumentException, IllegalStateException {
        needSlot(a);
        needSlot(to);
        if (n < -MOST_REPEATS || n > MOST_REPEATS) {
            throw new IllegalArgumentException("n is -5000 to 5000");
        }
        return repeat(a, Math.floorMod(n, PRIME), to);
    }

    public int root(int a, int n, int to)
            throws IndexOutOfBoundsException, IllegalArgumentException, IllegalStateException {
        needSlot(a);
        needSlot(to);
        if (n < 1 || n > MOST_REPEATS) {
            throw new IllegalArgumentException("n is 1 to 5000");
        }
        return repeat(a, Reckoner.inverseOf(n), to);
    }

    // ---- texts, snapshots

    public int append(int code) throws IllegalArgumentException, IllegalStateException {
        if (code < LEAST_CODE || code > MOST_CODE) {
            throw new IllegalArgumentException("a code is 33 to 126");
        }
        if (buffer.isFull()) {
            throw new IllegalStateException("the buffer has 60 characters");
        }
        buffer.add(code);
        return buffer.length;
    }

    public int clearBuffer() {
        int length = buffer.length;
        buffer.empty();
        return length;
    }

    public int firstError() {
        return buffer.firstWrong();
    }

    public int run() throws IllegalArgumentException {
        if (!buffer.isProgram()) {
            throw new IllegalArgumentException("the buffer is not a complete program");
        }
        history.save(now);
        int carriedOut = carryOutAll();
        buffer.empty();
        return carriedOut;
    }

    public int take(int snapshot) throws IndexOutOfBoundsException {
        needSnapshot(snapshot);
        snapshots[snapshot].copyFrom(now.shape);
        taken[snapshot] = true;
        return now.shape.fieldsThatAreNotZero();
    }

    public int restore(int snapshot) throws IndexOutOfBoundsException, IllegalStateException {
        needSnapshot(snapshot);
        if (!taken[snapshot]) {
            throw new IllegalStateException("the snapshot was not taken");
        }
        history.save(now);
        now.shape.copyFrom(snapshots[snapshot]);
        return now.shape.fieldsThatAreNotZero();
    }

    public int undo() throws IllegalStateException {
        if (history.size == 0) {
            throw new IllegalStateException("no state is saved");
        }
        history.bringBack(now);
        return history.size;
    }

    // ---- looks; nothing is changed, and nothing is paid

    public int field(int slot, int power) throws IndexOutOfBoundsException {
        needSlot(slot);
        needPower(power, 0, MOST_POWER);
        return now.shape.fields[slot][power];
    }

    public int flow(int slot, int power) throws IndexOutOfBoundsException {
        needSlot(slot);
        needPower(power, 0, MOST_POWER);
        return now.shape.flows[slot][power];
    }

    public int value(int what, int slot, int x) throws IndexOutOfBoundsException, IllegalArgumentException {
        needSlot(slot);
        if (what != 0 && what != 1) {
            throw new IllegalArgumentException("what is 0 or 1");
        }
        int[] row = what == 0 ? now.shape.fields[slot] : now.shape.flows[slot];
        return Reckoner.valueAt(row, Math.floorMod(x, PRIME));
    }

    public int clash(int f, int g) throws IndexOutOfBoundsException {
        needSlot(f);
        needSlot(g);
        reckoner.takeBracket(now.shape.fields[f], now.shape.fields[g], now.shape.cut, result);
        return Reckoner.lowestPower(result);
    }

    public int apart(int a, int b) throws IndexOutOfBoundsException {
        needSlot(a);
        needSlot(b);
        reckoner.substitute(now.shape.flows[a], now.shape.flows[b], now.shape.cut, result);
        reckoner.substitute(now.shape.flows[b], now.shape.flows[a], now.shape.cut, compared);
        return Reckoner.lowestDifference(result, compared);
    }

    public int differs(int a, int b, int k) throws IndexOutOfBoundsException, IllegalArgumentException {
        needSlot(a);
        needSlot(b);
        if (k < LEAST_WAY || k > WHOLE_WAY) {
            throw new IllegalArgumentException("k is 2 to 5");
        }
        reckoner.composedField(now.shape.fields[a], now.shape.fields[b], now.shape.cut, compared);
        return wayDiffers(a, b, k);
    }

    public int lacks(int order) throws IllegalArgumentException {
        if (Text.digitsOf(order) == 0) {
            throw new IllegalArgumentException("there is no such order");
        }
        return Math.max(0, costOf(unitsOf(order)) - now.purse);
    }

    public int count(int what) throws IllegalArgumentException {
        switch (what) {
            case 0:
                return now.shape.cut;
            case 1:
                return now.purse;
            case 2:
                return now.shape.fieldsThatAreNotZero();
            case 3:
                return now.shape.flowsThatAreNotX();
            case 4:
                return now.paid;
            case 5:
                return now.deeds;
            case 6:
                return now.brackets;
            case 7:
                return (taken[0] ? 1 : 0) + (taken[1] ? 1 : 0);
            case 8:
                return history.size;
            default:
                throw new IllegalArgumentException("what is 0 to 8");
        }
    }

    public double density() {
        int all = SLOTS * (now.shape.cut - LEAST_POWER + 1);
        return (double) now.shape.fieldCoefficientsThatAreNotZero() / (double) all;
    }

    public long digest() {
        long hash = FIRST_HASH;
        for (int what = 0; what < COUNTS; what++) {
            hash = HASH_FACTOR * hash + count(what);
        }
        for (int slot = 0; slot < SLOTS; slot++) {
            hash = hashCoefficients(hash, now.shape.fields[slot]);
            hash = hashCoefficients(hash, now.shape.flows[slot]);
            hash = hashLooks(hash, slot);
        }
        hash = HASH_FACTOR * hash + bitsOf(density());
        return buffer.hashFrom(hash);
    }

    // ---- what the calls above have in common

    private static void needSlot(int slot) {
        if (slot < 0 || slot >= SLOTS) {
            throw new IndexOutOfBoundsException("a slot is 0 to 5");
        }
    }

    private static void needPower(int power, int least, int most) {
        if (power < least || power > most) {
            throw new IndexOutOfBoundsException("the power is out of range");
        }
    }

    private static void needSnapshot(int snapshot) {
        if (snapshot < 0 || snapshot >= SNAPSHOTS) {
            throw new IndexOutOfBoundsException("a snapshot is 0 or 1");
        }
    }

    private void needMoney(int units) {
        if (now.purse < costOf(units)) {
            throw new IllegalStateException("the purse has less than it costs");
        }
    }

    private int costOf(int units) {
        return units * now.shape.cut;
    }

    private void pay(int units) {
        int cost = costOf(units);
        now.purse -= cost;
        now.paid += cost;
        now.deeds++;
    }

    private static int replace(int[] row, int power, int value) {
        int previous = row[power];
        row[power] = Math.floorMod(value, PRIME);
        return previous;
    }

    /** Results are reckoned in a row of their own, since the slot of the result may be one that is reckoned from. */
    private int put(int[] slotRow) {
        System.arraycopy(result, 0, slotRow, 0, ROW_LENGTH);
        return Reckoner.lowestPower(slotRow);
    }

    private int repeat(int a, int times, int to) {
        needMoney(REPEAT_UNITS);
        history.save(now);
        pay(REPEAT_UNITS);
        reckoner.repeatFlow(now.shape.flows[a], times, now.shape.cut, result);
        return put(now.shape.flows[to]);
    }

    // ---- orders

    private static int unitsOf(int letter) {
        switch (letter) {
            case 'b':
                return 2;
            case 's':
                return 1;
            case 'w':
                return 20;
            case 'p':
            case 'l':
                return 6;
            case 'e':
                return 5;
            case 'c':
            case 'i':
                return 4;
            default:
                return 0;
        }
    }

    private int orderAlone(int letter, int first, int second, int to) {
        needSlot(first);
        needSlot(second);
        needSlot(to);
        needMoney(unitsOf(letter));
        history.save(now);
        return carryOut(letter, first, second, to);
    }

    /** Letters stand at the beginning of orders alone, so that each of them tells where one begins. */
    private int carryOutAll() {
        int carriedOut = 0;
        for (int place = 0; place < buffer.length; place++) {
            int letter = buffer.codeAt(place);
            int digits = Text.digitsOf(letter);
            if (digits > 0) {
                if (now.purse < costOf(unitsOf(letter))) {
                    return carriedOut;
                }
                int last = place + digits;
                carryOut(letter, buffer.slotAt(place + 1), buffer.slotAt(last), buffer.slotAt(last + 2));
                carriedOut++;
            }
        }
        return carriedOut;
    }

    private int carryOut(int letter, int first, int second, int to) {
        pay(unitsOf(letter));
        if (letter == 'b') {
            now.brackets++;
        }
        int[][] fields = now.shape.fields;
        int[][] flows = now.shape.flows;
        int cut = now.shape.cut;
        switch (letter) {
            case 'b':
                reckoner.takeBracket(fields[first], fields[second], cut, result);
                return put(fields[to]);
            case 's':
                Reckoner.addRows(fields[first], fields[second], result);
                return put(fields[to]);
            case 'w':
                reckoner.secondWay(fields[first], fields[second], WHOLE_WAY, cut, result);
                return put(fields[to]);
            case 'p':
                reckoner.pushField(flows[first], fields[second], cut, result);
                return put(fields[to]);
            case 'l':
                reckoner.logarithm(flows[first], cut, result);
                return put(fields[to]);
            case 'e':
                reckoner.exponential(fields[first], cut, result);
                return put(flows[to]);
            case 'c':
                reckoner.substitute(flows[first], flows[second], cut, result);
                return put(flows[to]);
            case 'i':
                reckoner.inverse(flows[first], cut, result);
                return put(flows[to]);
            default:
                return NONE;
        }
    }

    // ---- the two ways compared, and the hash

    /** The composed field is dear and the same for each k, so the caller has it reckoned once, into its row. */
    private int wayDiffers(int a, int b, int k) {
        reckoner.secondWay(now.shape.fields[a], now.shape.fields[b], k, now.shape.cut, result);
        return Reckoner.lowestDifference(result, compared);
    }

    private static long hashCoefficients(long hash, int[] row) {
        long next = hash;
        for (int power = LEAST_POWER; power <= MOST_POWER; power++) {
            next = HASH_FACTOR * next + row[power];
        }
        return next;
    }

    private long hashLooks(long hash, int slot) {
        long next = HASH_FACTOR * hash + value(0, slot, DIGEST_X);
        next = HASH_FACTOR * next + value(1, slot, DIGEST_X);
        next = HASH_FACTOR * next + clash(slot, 0);
        next = HASH_FACTOR * next + apart(slot, 0);
        reckoner.composedField(now.shape.fields[0], now.shape.fields[slot], now.shape.cut, compared);
        for (int k = LEAST_WAY; k <= WHOLE_WAY; k++) {
            next = HASH_FACTOR * next + wayDiffers(0, slot, k);
        }
        return next;
    }

    /**
     * The bits of a number from 0 to 1. They are put together by arithmetic, because the part of Java that this
     * program keeps to has no call for them; every step is exact.
     */
    private static long bitsOf(double share) {
        if (share <= 0.0) {
            return 0L;
        }
        double leading = share;
        int doublings = 0;
        while (leading < 1.0 && doublings < EXPONENT_OF_ONE - 1) {
            leading = leading * 2.0;
            doublings++;
        }
        long exponent = EXPONENT_OF_ONE - doublings;
        long mantissa = (long) ((leading - 1.0) * (double) (1L << MANTISSA_BITS));
        return (exponent << MANTISSA_BITS) + mantissa;
    }

    /** What a snapshot keeps. A row holds the coefficient of each power from 0 on; above the cut they are 0. */
    private static final class Shape {
        int cut;
        final int[][] fields;
        final int[][] flows;

        Shape() {
            cut = FIRST_CUT;
            fields = new int[SLOTS][ROW_LENGTH];
            flows = new int[SLOTS][ROW_LENGTH];
            for (int slot = 0; slot < SLOTS; slot++) {
                flows[slot][1] = 1;
            }
        }

        void copyFrom(Shape other) {
            cut = other.cut;
            for (int slot = 0; slot < SLOTS; slot++) {
                System.arraycopy(other.fields[slot], 0, fields[slot], 0, ROW_LENGTH);
                System.arraycopy(other.flows[slot], 0, flows[slot], 0, ROW_LENGTH);
            }
        }

        void cutAt(int c) {
            cut = c;
            for (int slot = 0; slot < SLOTS; slot++) {
                for (int power = c + 1; power <= MOST_POWER; power++) {
                    fields[slot][power] = 0;
                    flows[slot][power] = 0;
                }
            }
        }

        int fieldsThatAreNotZero() {
            return rowsWithPowers(fields);
        }

        int flowsThatAreNotX() {
            return rowsWithPowers(flows);
        }

        private static int rowsWithPowers(int[][] rows) {
            int found = 0;
            for (int slot = 0; slot < SLOTS; slot++) {
                if (Reckoner.lowestPower(rows[slot]) != NONE) {
                    found++;
                }
            }
            return found;
        }

        int fieldCoefficientsThatAreNotZero() {
            int found = 0;
            for (int slot = 0; slot < SLOTS; slot++) {
                for (int power = LEAST_POWER; power <= MOST_POWER; power++) {
                    if (fields[slot][power] != 0) {
                        found++;
                    }
                }
            }
            return found;
        }
    }

    /** What undo brings back. */
    private static final class State {
        final Shape shape;
        int purse;
        int paid;
        int deeds;
        int brackets;

        State() {
            shape = new Shape();
            purse = FIRST_PURSE;
        }

        void copyFrom(State other) {
            shape.copyFrom(other.shape);
            purse = other.purse;
            paid = other.paid;
            deeds = other.deeds;
            brackets = other.brackets;
        }
    }

    /** The saved states, the oldest first. All are made at once and used again, so that a call makes no objects. */
    private static final class History {
        final State[] states;
        int size;

        History() {
            states = new State[MOST_SAVED];
            for (int i = 0; i < MOST_SAVED; i++) {
                states[i] = new State();
            }
        }

        void save(State now) {
            if (size >= MOST_SAVED) {
                dropOldest();
            }
            states[size].copyFrom(now);
            size++;
        }

        private void dropOldest() {
            State oldest = states[0];
            for (int i = 1; i < MOST_SAVED; i++) {
                states[i - 1] = states[i];
            }
            states[MOST_SAVED - 1] = oldest;
            size = MOST_SAVED - 1;
        }

        void bringBack(State now) {
            if (size > 0) {
                size--;
                now.copyFrom(states[size]);
            }
        }
    }

    /** The buffer, and what a program as a text looks like. */
    private static final class Text {
        final int[] codes;
        int length;

        Text() {
            codes = new int[BUFFER_ROOM];
        }

        boolean isFull() {
            return length >= BUFFER_ROOM;
        }

        void add(int code) {
            if (!isFull()) {
                codes[length] = code;
                length++;
            }
        }

        void empty() {
            length = 0;
        }

        int codeAt(int place) {
            return place < 0 || place >= length ? 0 : codes[place];
        }

        /** The slot that a digit names; 0 where none stands, so that the answer is a slot for any place. */
        int slotAt(int place) {
            int code = codeAt(place);
            return isSlot(code) ? code - '0' : 0;
        }

        private static boolean isSlot(int code) {
            return code >= '0' && code < '0' + SLOTS;
        }

        /** How many slots an order with this letter reckons from; 0 if there is no such order. */
        static int digitsOf(int letter) {
            switch (letter) {
                case 'b':
                case 's':
                case 'c':
                case 'w':
                case 'p':
                    return 2;
                case 'e':
                case 'l':
                case 'i':
                    return 1;
                default:
                    return 0;
            }
        }

        int firstWrong() {
            int start = 0;
            for (int place = 0; place < length; place++) {
                if (!fits(place, start)) {
                    return place;
                }
                if (codes[place] == ';') {
                    start = place + 1;
                }
            }
            return length;
        }

        /** Any beginning that fits so far can go on to a program, so each character is looked at within its order. */
        private boolean fits(int place, int start) {
            int code = codeAt(place);
            int digits = digitsOf(codeAt(start));
            int within = place - start;
            if (within == 0) {
                return digits > 0;
            }
            if (within == digits + 1) {
                return code == '>';
            }
            if (within == digits + 3) {
                return code == ';';
            }
            return isSlot(code);
        }

        /** Behind a ">" comes one digit and then the end of the order, so this ">" tells that the last one is whole. */
        boolean isProgram() {
            return firstWrong() == length && codeAt(length - 2) == '>';
        }

        long hashFrom(long hash) {
            long next = HASH_FACTOR * hash + length;
            for (int place = 0; place < length; place++) {
                next = HASH_FACTOR * next + codes[place];
            }
            return next;
        }
    }

    /**
     * Reckons with rows. The row for the answer is given along, is none of those reckoned from, and is filled whole.
     * Each method has scratch rows of its own, so that it may call the others without losing what it holds.
     */
    private static final class Reckoner {
        /** The inverses of 1 to 5, the divisors of the exponential's terms. */
        private static final int[] INVERSES = {0, 1, 5004, 3336, 2502, 4003};
        // 24 divides PRIME + 1, so these quotients are the inverses of 2, 12 and 24
        private static final int HALF = (PRIME + 1) / 2;
        private static final int TWELFTH = (PRIME + 1) / 12;
        private static final int TWENTY_FOURTH = (PRIME + 1) / 24;
        private static final int MINUS_ONE = PRIME - 1;

        private final int[] reversed;
        private final int[] term;
        private final int[] nextTerm;
        private final int[] product;
        private final int[] trial;
        private final int[] moved;
        private final int[] back;
        private final int[] repeated;
        private final int[] bracketAB;
        private final int[] bracketAW;
        private final int[] bracketBW;
        private final int[] flowA;
        private final int[] flowB;
        private final int[] composed;

        Reckoner() {
            reversed = new int[ROW_LENGTH];
            term = new int[ROW_LENGTH];
            nextTerm = new int[ROW_LENGTH];
            product = new int[ROW_LENGTH];
            trial = new int[ROW_LENGTH];
            moved = new int[ROW_LENGTH];
            back = new int[ROW_LENGTH];
            repeated = new int[ROW_LENGTH];
            bracketAB = new int[ROW_LENGTH];
            bracketAW = new int[ROW_LENGTH];
            bracketBW = new int[ROW_LENGTH];
            flowA = new int[ROW_LENGTH];
            flowB = new int[ROW_LENGTH];
            composed = new int[ROW_LENGTH];
        }

        static int lowestPower(int[] row) {
            for (int power = LEAST_POWER; power <= MOST_POWER; power++) {
                if (row[power] != 0) {
                    return power;
                }
            }
            return NONE;
        }

        static int lowestDifference(int[] one, int[] other) {
            for (int power = LEAST_POWER; power <= MOST_POWER; power++) {
                if (one[power] != other[power]) {
                    return power;
                }
            }
            return NONE;
        }

        static int valueAt(int[] row, int x) {
            long value = 0;
            for (int power = MOST_POWER; power >= 0; power--) {
                value = (value * x + row[power]) % PRIME;
            }
            return (int) value;
        }

        /** A number other than 0 to the PRIME - 2 is its inverse, since to the PRIME - 1 it is 1. */
        static int inverseOf(int number) {
            long inverse = 1;
            long square = Math.floorMod(number, PRIME);
            for (int bit = 0; bit < PRIME_BITS; bit++) {
                if (((PRIME - 2 >> bit) & 1) == 1) {
                    inverse = inverse * square % PRIME;
                }
                square = square * square % PRIME;
            }
            return (int) inverse;
        }

        static void addRows(int[] one, int[] other, int[] out) {
            for (int power = 0; power <= MOST_POWER; power++) {
                out[power] = (one[power] + other[power]) % PRIME;
            }
        }

        /** This one alone may have the row for the answer among those reckoned from. */
        static void scaleRow(int[] row, int by, int[] out) {
            for (int power = 0; power <= MOST_POWER; power++) {
                out[power] = (int) ((long) row[power] * by % PRIME);
            }
        }

        private static void addMultiple(int[] to, int[] row, int by) {
            for (int power = 0; power <= MOST_POWER; power++) {
                to[power] = (int) ((to[power] + (long) row[power] * by) % PRIME);
            }
        }

        private static void makeX(int[] row) {
            Arrays.fill(row, 0);
            row[1] = 1;
        }

        private static void act(int[] f, int[] on, int cut, int[] out) {
            Arrays.fill(out, 0);
            for (int power = LEAST_POWER; power <= cut; power++) {
                long total = 0;
                for (int from = LEAST_POWER; from <= power; from++) {
                    int derived = power - from + 1;
                    total += (long) f[from] * on[derived] * derived;
                }
                out[power] = (int) (total % PRIME);
            }
        }

        /** Fills the powers up to the cut alone, which are all that substitute() copies. */
        private static void multiply(int[] one, int[] other, int cut, int[] out) {
            for (int power = 0; power <= cut; power++) {
                long total = 0;
                for (int from = 0; from <= power; from++) {
                    total += (long) one[from] * other[power - from];
                }
                out[power] = (int) (total % PRIME);
            }
        }

        void takeBracket(int[] f, int[] g, int cut, int[] out) {
            act(f, g, cut, out);
            act(g, f, cut, reversed);
            addMultiple(out, reversed, MINUS_ONE);
        }

        void exponential(int[] f, int cut, int[] out) {
            makeX(out);
            makeX(term);
            for (int n = 1; n < cut && n < INVERSES.length; n++) {
                act(f, term, cut, nextTerm);
                scaleRow(nextTerm, INVERSES[n], term);
                addMultiple(out, term, 1);
            }
        }

        /** The inner polynomial is put in for x in the outer one. */
        void substitute(int[] inner, int[] outer, int cut, int[] out) {
            Arrays.fill(out, 0);
            for (int power = cut; power >= 0; power--) {
                multiply(out, inner, cut, product);
                product[0] = (product[0] + outer[power]) % PRIME;
                System.arraycopy(product, 0, out, 0, cut + 1);
            }
        }

        /** A coefficient of the inverse adds itself, and lower ones alone, to that of its power in what has to be x. */
        void inverse(int[] flow, int cut, int[] out) {
            makeX(out);
            for (int power = LEAST_POWER; power <= cut; power++) {
                substitute(flow, out, power, trial);
                out[power] = (PRIME - trial[power]) % PRIME;
            }
        }

        /** A coefficient of the field adds itself, and lower ones alone, to that of its power in the exponential. */
        void logarithm(int[] flow, int cut, int[] out) {
            Arrays.fill(out, 0);
            for (int power = LEAST_POWER; power <= cut; power++) {
                exponential(out, power, trial);
                out[power] = (flow[power] + PRIME - trial[power]) % PRIME;
            }
        }

        /** The exponentials of s times f and of t times f compose to that of s + t times f, for parts of 1 too. */
        void repeatFlow(int[] flow, int times, int cut, int[] out) {
            logarithm(flow, cut, repeated);
            scaleRow(repeated, times, repeated);
            exponential(repeated, cut, out);
        }

        void pushField(int[] flow, int[] f, int cut, int[] out) {
            inverse(flow, cut, back);
            act(f, flow, cut, moved);
            substitute(back, moved, cut, out);
        }

        /** With way 2 the sum alone, with 3 to 5 one part more for each. */
        void secondWay(int[] a, int[] b, int way, int cut, int[] out) {
            addRows(a, b, out);
            if (way < 3) {
                return;
            }
            takeBracket(a, b, cut, bracketAB);
            addMultiple(out, bracketAB, HALF);
            if (way < 4) {
                return;
            }
            takeBracket(a, bracketAB, cut, bracketAW);
            takeBracket(b, bracketAB, cut, bracketBW);
            addMultiple(out, bracketAW, TWELFTH);
            addMultiple(out, bracketBW, PRIME - TWELFTH);
            if (way < WHOLE_WAY) {
                return;
            }
            takeBracket(b, bracketAW, cut, bracketBW);
            addMultiple(out, bracketBW, PRIME - TWENTY_FOURTH);
        }

        /** The first way: the logarithm of what comes when the exponential of a, then that of b is composed. */
        void composedField(int[] a, int[] b, int cut, int[] out) {
            exponential(a, cut, flowA);
            exponential(b, cut, flowB);
            substitute(flowA, flowB, cut, composed);
            logarithm(composed, cut, out);
        }
    }
}
