import com.sun.management.ThreadMXBean;
import java.io.IOException;
import java.lang.management.ManagementFactory;
import java.lang.reflect.Method;
import java.lang.reflect.Modifier;
import java.nio.file.Files;
import java.nio.file.Path;
import java.util.Arrays;
import java.util.List;
import java.util.Set;
import java.util.TreeSet;
import java.util.stream.Collectors;

/** The public face, and those rules of LANGUAGE.md that reflection, a text search or a count of bytes can tell. */
public final class RulesTest {
    private static final Path SOURCE = Path.of("src/main/java/LineFields.java");
    private static final String I = "IndexOutOfBoundsException";
    private static final String A = "IllegalArgumentException";
    private static final String S = "IllegalStateException";
    private static final String[] FACE = {
        "int cut(int) " + A,
        "int setField(int, int, int) " + I,
        "int setFlow(int, int, int) " + I,
        "int earn(int) " + A + " " + S,
        "int bracket(int, int, int) " + I + " " + S,
        "int sum(int, int, int) " + I + " " + S,
        "int scale(int, int, int) " + I + " " + S,
        "int byBrackets(int, int, int) " + I + " " + S,
        "int push(int, int, int) " + I + " " + S,
        "int log(int, int) " + I + " " + S,
        "int exp(int, int) " + I + " " + S,
        "int compose(int, int, int) " + I + " " + S,
        "int invert(int, int) " + I + " " + S,
        "int power(int, int, int) " + I + " " + A + " " + S,
        "int root(int, int, int) " + I + " " + A + " " + S,
        "int append(int) " + A + " " + S,
        "int clearBuffer()",
        "int firstError()",
        "int run() " + A,
        "int take(int) " + I,
        "int restore(int) " + I + " " + S,
        "int undo() " + S,
        "int field(int, int) " + I,
        "int flow(int, int) " + I,
        "int value(int, int, int) " + I + " " + A,
        "int clash(int, int) " + I,
        "int apart(int, int) " + I,
        "int differs(int, int, int) " + I + " " + A,
        "int lacks(int) " + A,
        "int count(int) " + A,
        "double density()",
        "long digest()",
    };
    private static final String[] FORBIDDEN = {"Double.", "Float.", "Exact", "->", "::", "try ", "catch", "finally",
        "synchronized", "assert", "instanceof", "static {", "protected ", "@", "System.out", "System.nano",
        "System.current", "Random", "Thread", "String ", "package ", " var ", "yield"};
    private static final int LONGEST_METHOD = 60;
    private static final int MOST_BYTES = 10_000;

    private static final Checks CHECKS = new Checks();

    public static void main(String[] args) throws IOException {
        face();
        names();
        text(Files.readString(SOURCE));
        lengths(Files.readAllLines(SOURCE));
        objects();
        CHECKS.end("RulesTest");
    }

    private static String told(Method m) {
        String takes = Arrays.stream(m.getParameterTypes()).map(Class::getName).collect(Collectors.joining(", "));
        String throwing = Arrays.stream(m.getExceptionTypes()).map(t -> " " + t.getSimpleName())
                .collect(Collectors.joining());
        return m.getReturnType() + " " + m.getName() + "(" + takes + ")" + throwing;
    }

    private static void face() {
        Set<String> methods = new TreeSet<>();
        for (Method m : LineFields.class.getDeclaredMethods()) {
            if (!Modifier.isPrivate(m.getModifiers())) {
                methods.add(told(m));
                CHECKS.same(m.getName() + " is public alone", Modifier.toString(m.getModifiers()), "public");
            }
        }
        CHECKS.same("the methods", methods.toString(), new TreeSet<>(List.of(FACE)).toString());
        String fields = Arrays.stream(LineFields.class.getDeclaredFields())
                .filter(f -> !Modifier.isPrivate(f.getModifiers())).map(Object::toString)
                .collect(Collectors.joining());
        CHECKS.same("the constants", fields, "public static final int LineFields.NONE");
        String made = Arrays.stream(LineFields.class.getDeclaredConstructors()).map(Object::toString)
                .collect(Collectors.joining());
        CHECKS.same("the constructor", made, "public LineFields()");
        CHECKS.same("the class", Modifier.toString(LineFields.class.getModifiers()), "public final");
    }

    private static void names() {
        Set<String> open = Arrays.stream(FACE).map(f -> f.substring(f.indexOf(' ') + 1, f.indexOf('(')))
                .collect(Collectors.toSet());
        for (Class<?> c : classes()) {
            for (Method m : c.getDeclaredMethods()) {
                boolean twice = Modifier.isPrivate(m.getModifiers()) && open.contains(m.getName());
                CHECKS.same("private name " + c.getName() + "." + m.getName(), twice ? 1 : 0, 0);
                CHECKS.same("parameters of " + m.getName(), Math.max(7, m.getParameterCount()), 7);
            }
            long fields = Arrays.stream(c.getDeclaredFields()).filter(f -> !Modifier.isStatic(f.getModifiers()))
                    .count();
            CHECKS.same("fields of " + c.getName(), Math.max(20, fields), 20);
            Arrays.stream(c.getDeclaredFields()).filter(f -> Modifier.isStatic(f.getModifiers()))
                    .forEach(f -> CHECKS.same(f + " is final", Modifier.isFinal(f.getModifiers()) ? 1 : 0, 1));
        }
        CHECKS.same("classes", Math.max(12, classes().size()), 12);
    }

    private static List<Class<?>> classes() {
        List<Class<?>> all = new java.util.ArrayList<>(List.of(LineFields.class.getDeclaredClasses()));
        for (Class<?> inside : all) {
            CHECKS.same(inside + " is static", Modifier.isStatic(inside.getModifiers()) ? 1 : 0, 1);
        }
        all.add(LineFields.class);
        return all;
    }

    private static void text(String source) {
        for (String forbidden : FORBIDDEN) {
            CHECKS.same("has " + forbidden, source.contains(forbidden) ? 1 : 0, 0);
        }
        String imports = source.lines().filter(l -> l.startsWith("import")).collect(Collectors.joining());
        CHECKS.same("imports", imports, "import java.util.Arrays;");
        CHECKS.same("plain signs alone", source.chars().filter(c -> c > 126 || c < 32 && c != '\n').count(), 0);
    }

    /** A method is taken to begin with a line that ends in ") {", or in what it throws, and to end with its brace. */
    private static void lengths(List<String> lines) {
        int start = -1;
        String end = "";
        for (int i = 0; i < lines.size(); i++) {
            String line = lines.get(i);
            String indent = line.substring(0, line.length() - line.stripLeading().length());
            boolean member = indent.length() == 4 || indent.length() == 8;
            if (start < 0 && member && line.endsWith("{") && line.contains("(") && !line.contains(" class ")) {
                start = i;
                end = indent + "}";
            } else if (start >= 0 && line.equals(end)) {
                CHECKS.same("lines from " + (start + 1), Math.max(LONGEST_METHOD, i - start + 1), LONGEST_METHOD);
                start = -1;
            }
        }
    }

    /** A call makes no objects, so that a long run stays within the room that is given. */
    private static void objects() {
        ThreadMXBean bean = (ThreadMXBean) ManagementFactory.getThreadMXBean();
        everyCall(new LineFields());
        LineFields x = new LineFields();
        long thread = Thread.currentThread().getId();
        long before = bean.getThreadAllocatedBytes(thread);
        for (int i = 0; i < 10; i++) {
            everyCall(x);
        }
        long bytes = bean.getThreadAllocatedBytes(thread) - before;
        CHECKS.same("bytes for objects", Math.max(MOST_BYTES, bytes), MOST_BYTES);
    }

    private static void everyCall(LineFields x) {
        x.cut(6);
        x.earn(1000);
        x.setField(0, 2, 5);
        x.setFlow(1, 3, 6);
        x.byBrackets(0, 1, 2);
        x.push(1, 0, 3);
        x.log(1, 1);
        x.exp(0, 2);
        x.compose(1, 2, 3);
        x.invert(3, 4);
        x.power(2, -5000, 5);
        x.root(2, 4999, 5);
        for (char code : "b01>2;s01>3;e0>1".toCharArray()) {
            x.append(code);
        }
        x.firstError();
        x.run();
        x.take(0);
        x.restore(0);
        x.clash(0, 1);
        x.apart(0, 1);
        x.differs(0, 1, 5);
        x.digest();
        for (int i = 0; i < 6; i++) {
            x.undo();
        }
    }
}
