import java.io.IOException;
import java.lang.reflect.Constructor;
import java.lang.reflect.Method;
import java.lang.reflect.Modifier;
import java.nio.file.Files;
import java.nio.file.Path;
import java.util.Arrays;
import java.util.Set;
import java.util.TreeSet;
import java.util.function.IntSupplier;
import java.util.stream.Collectors;

/** What stands before and behind the document's terms and promises: what it is, the public face, and not promised. */
public final class FaceTest {
    private static final int USES = 512;
    private static final int MANY_USES = 20000;
    private static final int CALLS = 32;
    private static final int[] NUMBERS = {0, 1, 2, 3, 5, 6, 7, -1, 33, 60, 100, 1000, 'b', 'e', ';', '>', '0',
        Integer.MAX_VALUE, Integer.MIN_VALUE};

    private static final Book BOOK = new Book();

    public static void main(String[] args) throws IOException, InterruptedException {
        allThatItIs();
        uses();
        face(Files.readString(RulesTest.SOURCE));
        free();
        severalThreads();
        nothingBeyond();
        BOOK.end("FaceTest", title -> !title.startsWith("Promise ") && !TermsTest.SECTIONS.contains(title));
    }

    // ---- what it is

    private static void allThatItIs() {
        BOOK.section("What it is");
        BOOK.sentence("Vector fields on a line that are cut at a power");
        LineFields x = Setup.filled();
        Model m = Setup.filledModel();
        BOOK.same("cut at a power", x.cut(5), m.cut(5));
        for (Deed deed : Deed.values()) {
            BOOK.same("work: " + deed, deed.on(x, 2, 3, 4), deed.on(m, 2, 3, 4));
            BOOK.same("work that is paid for: " + deed, x.count(1), m.count(1));
            x.earn(deed.units * 5);
            m.earn(deed.units * 5);
        }
        BOOK.same("what would be", x.differs(0, 1, 2) + x.lacks('w'), m.differs(0, 1, 2) + m.lacks('w'));
        for (char code : "b01>2;x".toCharArray()) {
            x.append(code);
            m.append(code);
        }
        BOOK.same("errors by place", x.firstError(), m.firstError());
        x.clearBuffer();
        m.clearBuffer();
        for (char code : "b01>2;c23>4".toCharArray()) {
            x.append(code);
            m.append(code);
        }
        BOOK.same("programs as texts", x.run(), m.run());
        BOOK.same("snapshots", x.take(1) + x.cut(2) + x.restore(1), m.take(1) + m.cut(2) + m.restore(1));
        BOOK.same("undo", x.undo(), m.undo());
        BOOK.same("all of it", x.digest(), m.digest());
    }

    private static void uses() {
        BOOK.sentence("An object is used for at most 512 calls");
        LineFields x = new LineFields();
        Model m = new Model();
        for (int i = 1; i <= USES - 2; i += 2) {
            x.setField(i % 6, 2 + i % 4, i);
            m.set(false, i % 6, 2 + i % 4, i);
            x.setFlow(i % 6, 2 + i % 4, 7 * i);
            m.set(true, i % 6, 2 + i % 4, 7 * i);
        }
        BOOK.same("the 511th call", x.undo(), m.undo());
        BOOK.same("the 512th call", x.digest(), m.digest());
    }

    // ---- the public face

    /** The lines of the document's face are looked for in the source, where a space may be the end of a line. */
    private static void face(String source) {
        BOOK.section("The public face");
        String code = source.replaceAll("\\s+", " ");
        Set<String> due = new TreeSet<>();
        for (String line : BOOK.sentences()) {
            BOOK.sentence(line);
            String begin = line.endsWith(");") || line.contains(" throws ") ? line.replace(";", " {") : line;
            BOOK.same("in the source", code.contains(" " + begin) ? 1 : 0, 1);
            if (line.contains("class ")) {
                BOOK.same("no more than that", Modifier.toString(LineFields.class.getModifiers()), "public final");
                BOOK.same("nothing above it", LineFields.class.getSuperclass().getName()
                        + LineFields.class.getInterfaces().length, "java.lang.Object0");
            } else {
                due.add(line.replaceAll("int \\w+(?=[,)])", "int"));
            }
        }
        BOOK.same("the members of the face", members().toString(), due.toString());
        BOOK.same("the face has so many calls", due.size(), CALLS + 2);
    }

    private static Set<String> members() {
        Set<String> all = new TreeSet<>();
        for (Method m : LineFields.class.getDeclaredMethods()) {
            if (!Modifier.isPrivate(m.getModifiers())) {
                String names = Arrays.stream(m.getParameterTypes()).map(Class::getName)
                        .collect(Collectors.joining(", "));
                all.add(Modifier.toString(m.getModifiers()) + " " + m.getReturnType() + " " + m.getName() + "("
                        + names + ")" + thrown(m.getExceptionTypes()) + ";");
            }
        }
        for (Constructor<?> c : LineFields.class.getDeclaredConstructors()) {
            all.add(c + thrown(c.getExceptionTypes()) + ";");
        }
        Arrays.stream(LineFields.class.getDeclaredFields()).filter(f -> !Modifier.isPrivate(f.getModifiers()))
                .forEach(f -> all.add(f.toString().replace("LineFields.", "") + " = " + LineFields.NONE + ";"));
        return all;
    }

    private static String thrown(Class<?>[] exceptions) {
        return exceptions.length == 0 ? "" : Arrays.stream(exceptions).map(Class::getSimpleName)
                .collect(Collectors.joining(", ", " throws ", ""));
    }

    // ---- not promised

    private static void free() {
        BOOK.section("Not promised");
        BOOK.sentence("How the state is held inside the object is free");
        LineFields x = new LineFields();
        LineFields y = new LineFields();
        BOOK.same("equals is that of any object", x.equals(y) ? 1 : 0, 0);
        BOOK.same("toString is that of any object", x.toString().startsWith("LineFields@") ? 1 : 0, 1);
        BOOK.same("hashCode is that of any object", x.hashCode(), System.identityHashCode(x));
    }

    private static void severalThreads() throws InterruptedException {
        BOOK.sentence("Use of one object from several threads at once");
        String[] portraits = new String[8];
        Thread[] threads = new Thread[portraits.length];
        for (int i = 0; i < threads.length; i++) {
            int which = i;
            threads[i] = new Thread(() -> portraits[which] = portrait(which));
            threads[i].start();
        }
        for (int i = 0; i < threads.length; i++) {
            threads[i].join();
            BOOK.same("an object of one thread alone is not disturbed, " + i, portraits[i], portrait(i));
        }
        LineFields x = Setup.filled();
        LineFields y = Setup.busy();
        x.take(0);
        y.setField(0, 2, 5);
        x.append('e');
        y.clearBuffer();
        x.byBrackets(0, 1, 2);
        y.undo();
        BOOK.same("nor is one by the calls of another", x.count(8) * 100 + x.clearBuffer(), 601);
    }

    private static String portrait(int which) {
        return Portrait.of(which % 2 == 0 ? Setup.busy() : Setup.poor());
    }

    /** What is answered behind the 512th call is free, but the rules let no call throw by itself in any state. */
    private static void nothingBeyond() {
        BOOK.sentence("Nothing is promised beyond the answers");
        LineFields x = Setup.busy();
        long seed = 1;
        String strange = "";
        for (int i = 0; i < MANY_USES; i++) {
            seed = seed * 6364136223846793005L + 1442695040888963407L;
            int dice = (int) (seed >>> 33);
            int first = NUMBERS[dice / CALLS % NUMBERS.length];
            int second = NUMBERS[dice / 1009 % NUMBERS.length];
            int third = NUMBERS[dice / 100003 % NUMBERS.length];
            strange += strangeIn(() -> call(x, dice % CALLS, first, second, third));
        }
        BOOK.same("no call throws by itself", strange, "");
    }

    private static String strangeIn(IntSupplier call) {
        try {
            call.getAsInt();
            return "";
        } catch (RuntimeException e) {
            boolean due = e.getClass() == IndexOutOfBoundsException.class
                    || e.getClass() == IllegalArgumentException.class || e.getClass() == IllegalStateException.class;
            boolean byItself = e.getStackTrace().length == 0 || !e.getStackTrace()[0].getClassName()
                    .startsWith("LineFields");
            return due && !byItself ? "" : e + " ";
        }
    }

    private static int call(LineFields x, int which, int a, int b, int c) {
        switch (which) {
            case 0: return x.cut(a);
            case 1: return x.setField(a, b, c);
            case 2: return x.setFlow(a, b, c);
            case 3: return x.earn(a);
            case 4: case 5: case 6: case 7: case 8: case 9: case 10: case 11: case 12: case 13: case 14:
                return Deed.values()[which - 4].on(x, a, b, c);
            case 15: return x.append(a);
            case 16: return x.clearBuffer();
            case 17: return x.firstError();
            case 18: return x.run();
            case 19: return x.take(a);
            case 20: return x.restore(a);
            case 21: return x.undo();
            case 22: return x.field(a, b);
            case 23: return x.flow(a, b);
            case 24: return x.value(a, b, c);
            case 25: return x.clash(a, b);
            case 26: return x.apart(a, b);
            case 27: return x.differs(a, b, c);
            case 28: return x.lacks(a);
            case 29: return x.count(a);
            case 30: return (int) x.density();
            default: return (int) x.digest();
        }
    }
}
