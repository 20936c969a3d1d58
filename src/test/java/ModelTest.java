import java.util.function.Supplier;

/** Long runs of made-up calls on a LineFields and on a Model; each answer and each digest has to be the same. */
public final class ModelTest {
    private static final int RUNS = 240;
    // each is followed by a digest, and an object is good for 512 calls
    private static final int CALLS = 250;
    private static final char[] DEEDS = {'b', 's', 'm', 'w', 'p', 'l', 'e', 'c', 'i', 'n', 'r'};
    private static final Checks CHECKS = new Checks();

    private LineFields x = new LineFields();
    private Model model = new Model();
    private final int run;
    private long seed;
    private int calls;

    private ModelTest(int run) {
        this.run = run;
        seed = 77777L * run + 1;
    }

    public static void main(String[] args) {
        for (int run = 0; run < RUNS; run++) {
            new ModelTest(run).play();
        }
        CHECKS.end("ModelTest");
    }

    /** The same numbers each time, so that a run that fails can be looked at again. */
    private int below(int bound) {
        seed = seed * 6364136223846793005L + 1442695040888963407L;
        return (int) ((seed >>> 33) % bound);
    }

    /** Mostly from least to most; now and then just beside, or far away. */
    private int near(int least, int most) {
        int dice = below(60);
        if (dice == 0) {
            return least - 1;
        }
        if (dice == 1) {
            return most + 1;
        }
        if (dice == 2) {
            return below(2) == 0 ? Integer.MIN_VALUE : Integer.MAX_VALUE;
        }
        return least + below(most - least + 1);
    }

    private int slot() {
        return near(0, 5);
    }

    private int number() {
        int dice = below(4);
        if (dice == 0) {
            return below(5) - 2;
        }
        if (dice == 1) {
            return (below(3) - 1) * Model.P + below(3) - 1;
        }
        return (int) ((long) below(Integer.MAX_VALUE) * 2 + Integer.MIN_VALUE);
    }

    private void play() {
        while (calls < CALLS) {
            step();
        }
    }

    private void same(String what, Supplier<Number> got, Supplier<Number> due) {
        calls++;
        String label = "run " + run + " call " + calls + " " + what;
        CHECKS.same(label, Model.told(got), Model.told(due));
        CHECKS.same(label + ", digest", x.digest(), model.digest());
    }

    private void step() {
        int dice = below(100);
        if (dice < 3) {
            int c = below(3) == 0 ? near(2, 6) : near(5, 6);
            same("cut", () -> x.cut(c), () -> model.cut(c));
        } else if (dice < 15) {
            coefficient();
        } else if (dice < 22) {
            int money = near(1, 1000);
            same("earn", () -> x.earn(money), () -> model.earn(money));
        } else if (dice < 50) {
            deed(DEEDS[below(DEEDS.length)], slot(), slot(), slot());
        } else if (dice < 60) {
            program();
        } else if (dice < 64) {
            int snapshot = near(0, 1);
            same("take", () -> x.take(snapshot), () -> model.take(snapshot));
        } else if (dice < 68) {
            int snapshot = near(0, 1);
            same("restore", () -> x.restore(snapshot), () -> model.restore(snapshot));
        } else if (dice < 75) {
            same("undo", x::undo, model::undo);
        } else {
            look(slot(), slot());
        }
    }

    private void coefficient() {
        int slot = slot();
        int power = near(2, 5 + below(2));
        int value = number();
        if (below(2) == 0) {
            same("setField", () -> x.setField(slot, power, value), () -> model.set(false, slot, power, value));
        } else {
            same("setFlow", () -> x.setFlow(slot, power, value), () -> model.set(true, slot, power, value));
        }
    }

    private void deed(char deed, int a, int b, int to) {
        int n = deed == 'm' ? number() : deed == 'n' ? near(-5000, 5000) : near(1, 5000);
        int second = "mnr".indexOf(deed) >= 0 ? n : b;
        same("deed " + deed, () -> call(deed, a, second, to), () -> model.deed(deed, a, second, to));
    }

    private int call(char deed, int a, int b, int to) {
        return switch (deed) {
            case 'b' -> x.bracket(a, b, to);
            case 's' -> x.sum(a, b, to);
            case 'm' -> x.scale(a, b, to);
            case 'w' -> x.byBrackets(a, b, to);
            case 'p' -> x.push(a, b, to);
            case 'l' -> x.log(a, to);
            case 'e' -> x.exp(a, to);
            case 'c' -> x.compose(a, b, to);
            case 'i' -> x.invert(a, to);
            case 'n' -> x.power(a, b, to);
            default -> x.root(a, b, to);
        };
    }

    /** A program, or one with a character put in, left out or changed. */
    private void program() {
        StringBuilder text = new StringBuilder();
        int orders = 1 + below(6);
        for (int i = 0; i < orders; i++) {
            char letter = "bscwpeli".charAt(below(8));
            text.append(i == 0 ? "" : ";").append(letter).append(below(6));
            text.append("bscwp".indexOf(letter) >= 0 ? String.valueOf(below(6)) : "").append('>').append(below(6));
        }
        if (below(4) == 0) {
            int place = below(text.length());
            char sign = below(3) == 0 ? (char) (33 + below(94)) : "bscwpeli0123456>;".charAt(below(17));
            switch (below(3)) {
                case 0 -> text.insert(place, sign);
                case 1 -> text.deleteCharAt(place);
                default -> text.setCharAt(place, sign);
            }
        }
        for (int i = 0; i < text.length() && calls < CALLS - 4; i++) {
            int code = text.charAt(i);
            same("append", () -> x.append(code), () -> model.append(code));
        }
        same("firstError", x::firstError, model::firstError);
        same("run", x::run, model::run);
        if (below(4) != 0) {
            same("clearBuffer", x::clearBuffer, model::clearBuffer);
        }
    }

    private void look(int a, int b) {
        int power = near(0, 6);
        int what = near(0, 1);
        int at = number();
        int k = near(2, 5);
        int which = near(0, 8);
        int order = below(8) == 0 ? near(33, 126) : "bscwpeli".charAt(below(8));
        int code = near(33, 126);
        switch (below(10)) {
            case 0 -> same("field", () -> x.field(a, power), () -> model.coefficient(false, a, power));
            case 1 -> same("flow", () -> x.flow(a, power), () -> model.coefficient(true, a, power));
            case 2 -> same("value", () -> x.value(what, a, at), () -> model.value(what, a, at));
            case 3 -> same("clash", () -> x.clash(a, b), () -> model.clash(a, b));
            case 4 -> same("apart", () -> x.apart(a, b), () -> model.apart(a, b));
            case 5 -> same("differs", () -> x.differs(a, b, k), () -> model.differs(a, b, k));
            case 6 -> same("lacks", () -> x.lacks(order), () -> model.lacks(order));
            case 7 -> same("count", () -> x.count(which), () -> model.count(which));
            case 8 -> same("density", x::density, model::density);
            default -> same("append", () -> x.append(code), () -> model.append(code));
        }
    }
}
