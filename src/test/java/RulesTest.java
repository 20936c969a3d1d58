import com.sun.management.ThreadMXBean;
import java.io.IOException;
import java.lang.management.ManagementFactory;
import java.lang.reflect.Method;
import java.lang.reflect.Modifier;
import java.nio.file.Files;
import java.nio.file.Path;
import java.util.Arrays;
import java.util.List;
import java.util.Set;
import java.util.regex.Matcher;
import java.util.regex.Pattern;
import java.util.stream.Collectors;

/** Those rules of LANGUAGE.md that reflection, a text search or a count of bytes can tell. */
public final class RulesTest {
    static final Path SOURCE = Path.of("src/main/java/LineFields.java");
    private static final String[] FORBIDDEN = {"Double.", "Float.", "Exact", "->", "::", "try ", "catch", "finally",
        "synchronized", "assert", "instanceof", "static {", "protected ", "@", "System.out", "System.nano",
        "System.current", "Random", "Thread", "String ", "package ", " var ", "yield"};
    private static final Pattern LIBRARY =
            Pattern.compile("\\b(?:Math|Arrays|System|Integer|Long|Character|Boolean|Objects|List)\\.\\w+");
    private static final Set<String> LISTED = Set.of("Math.floorMod", "Math.max", "Arrays.fill", "System.arraycopy");
    private static final int LONGEST_METHOD = 60;
    private static final int MOST_BYTES = 10_000;

    private static final Checks CHECKS = new Checks();

    public static void main(String[] args) throws IOException {
        names();
        text(Files.readString(SOURCE));
        lengths(Files.readAllLines(SOURCE));
        objects();
        CHECKS.end("RulesTest");
    }

    private static void names() {
        Set<String> open = Arrays.stream(LineFields.class.getDeclaredMethods())
                .filter(m -> Modifier.isPublic(m.getModifiers())).map(Method::getName).collect(Collectors.toSet());
        for (Class<?> c : classes()) {
            for (Method m : c.getDeclaredMethods()) {
                boolean twice = Modifier.isPrivate(m.getModifiers()) && open.contains(m.getName());
                CHECKS.same("private name " + c.getName() + "." + m.getName(), twice ? 1 : 0, 0);
                CHECKS.same("parameters of " + m.getName(), Math.max(7, m.getParameterCount()), 7);
            }
            long fields = Arrays.stream(c.getDeclaredFields()).filter(f -> !Modifier.isStatic(f.getModifiers()))
                    .count();
            CHECKS.same("fields of " + c.getName(), Math.max(20, fields), 20);
            Arrays.stream(c.getDeclaredFields()).filter(f -> Modifier.isStatic(f.getModifiers()))
                    .forEach(f -> CHECKS.same(f + " is final", Modifier.isFinal(f.getModifiers()) ? 1 : 0, 1));
        }
        CHECKS.same("classes", Math.max(12, classes().size()), 12);
    }

    private static List<Class<?>> classes() {
        List<Class<?>> all = new java.util.ArrayList<>(List.of(LineFields.class.getDeclaredClasses()));
        for (Class<?> inside : all) {
            CHECKS.same(inside + " is static", Modifier.isStatic(inside.getModifiers()) ? 1 : 0, 1);
        }
        all.add(LineFields.class);
        return all;
    }

    private static void text(String source) {
        for (String forbidden : FORBIDDEN) {
            CHECKS.same("has " + forbidden, source.contains(forbidden) ? 1 : 0, 0);
        }
        String imports = source.lines().filter(l -> l.startsWith("import")).collect(Collectors.joining());
        CHECKS.same("imports", imports, "import java.util.Arrays;");
        Matcher m = LIBRARY.matcher(source);
        while (m.find()) {
            CHECKS.same("the library's " + m.group(), LISTED.contains(m.group()) ? 1 : 0, 1);
        }
        CHECKS.same("plain signs alone", source.chars().filter(c -> c > 126 || c < 32 && c != '\n').count(), 0);
    }

    /** A method is taken to begin with a line that ends in ") {", or in what it throws, and to end with its brace. */
    private static void lengths(List<String> lines) {
        int start = -1;
        String end = "";
        for (int i = 0; i < lines.size(); i++) {
            String line = lines.get(i);
            String indent = line.substring(0, line.length() - line.stripLeading().length());
            boolean member = indent.length() == 4 || indent.length() == 8;
            if (start < 0 && member && line.endsWith("{") && line.contains("(") && !line.contains(" class ")) {
                start = i;
                end = indent + "}";
            } else if (start >= 0 && line.equals(end)) {
                CHECKS.same("lines from " + (start + 1), Math.max(LONGEST_METHOD, i - start + 1), LONGEST_METHOD);
                start = -1;
            }
        }
    }

    /** A call makes no objects, so that a long run stays within the room that is given. */
    private static void objects() {
        ThreadMXBean bean = (ThreadMXBean) ManagementFactory.getThreadMXBean();
        everyCall(new LineFields());
        LineFields x = new LineFields();
        long thread = Thread.currentThread().getId();
        long before = bean.getThreadAllocatedBytes(thread);
        for (int i = 0; i < 10; i++) {
            everyCall(x);
        }
        long bytes = bean.getThreadAllocatedBytes(thread) - before;
        CHECKS.same("bytes for objects", Math.max(MOST_BYTES, bytes), MOST_BYTES);
    }

    private static void everyCall(LineFields x) {
        x.cut(6);
        x.earn(1000);
        x.setField(0, 2, 5);
        x.setFlow(1, 3, 6);
        x.byBrackets(0, 1, 2);
        x.push(1, 0, 3);
        x.log(1, 1);
        x.exp(0, 2);
        x.compose(1, 2, 3);
        x.invert(3, 4);
        x.power(2, -5000, 5);
        x.root(2, 4999, 5);
        for (char code : "b01>2;s01>3;e0>1".toCharArray()) {
            x.append(code);
        }
        x.firstError();
        x.run();
        x.take(0);
        x.restore(0);
        x.clash(0, 1);
        x.apart(0, 1);
        x.differs(0, 1, 5);
        x.digest();
        for (int i = 0; i < 6; i++) {
            x.undo();
        }
    }
}
