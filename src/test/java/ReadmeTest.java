import java.io.IOException;
import java.nio.file.Files;
import java.nio.file.Path;
import java.util.ArrayList;
import java.util.List;
import java.util.regex.Matcher;
import java.util.regex.Pattern;
import java.util.stream.Stream;

/** What README.md prints: its example, run by its commands, and whether it tells all calls, costs, orders and tests. */
public final class ReadmeTest {
    private static final Path BUILD = Path.of("build");
    private static final Path CLASS = Path.of("src/main/java/LineFields.java");
    private static final Path TESTS = Path.of("src/test/java");
    private static final Pattern EXAMPLE = Pattern.compile("```java\n(.*?)```\n.*?```sh\n(.*?)```\n", Pattern.DOTALL);
    private static final Pattern PRINTED = Pattern.compile("println\\(.*\\); +// prints (.*)");
    private static final Pattern FACE = Pattern.compile("    public \\w+ (\\w+)\\(([^)]*)\\).*;");
    private static final Pattern ORDER = Pattern.compile("`([a-z][0-9]+>[0-9]+)`");
    private static final Pattern TEST = Pattern.compile("`(\\w+Test)`");

    private static final Checks CHECKS = new Checks();

    public static void main(String[] args) throws IOException, InterruptedException {
        String readme = Files.readString(Path.of("README.md"));
        example(readme);
        calls(readme, Files.readString(Path.of("../shared/DOC.md")));
        orders(readme);
        tests(readme);
        CHECKS.end("ReadmeTest");
    }

    private static List<String> all(Pattern pattern, String text) {
        List<String> found = new ArrayList<>();
        Matcher m = pattern.matcher(text);
        while (m.find()) {
            found.add(m.group(1));
        }
        return found;
    }

    // ---- the example

    private static void example(String readme) throws IOException, InterruptedException {
        Matcher m = EXAMPLE.matcher(readme);
        int examples = 0;
        while (m.find()) {
            examples++;
            String program = m.group(1);
            String printed = String.join("\n", all(PRINTED, program));
            CHECKS.same("each line that is printed is told", printed.split("\n").length,
                    program.split("println", -1).length - 1);
            CHECKS.same("what the example prints", run(program, m.group(2)), printed);
        }
        CHECKS.same("all programs are examples", examples, readme.split("```java", -1).length - 1);
        CHECKS.same("there is an example", examples, 1);
    }

    /** In a new directory, where the class stands as it does in the project. */
    private static String run(String program, String commands) throws IOException, InterruptedException {
        Path room = Files.createTempDirectory(BUILD, "readme");
        Path copy = room.resolve(CLASS);
        Files.createDirectories(copy.getParent());
        Files.writeString(copy, Files.readString(CLASS));
        Files.writeString(room.resolve("Example.java"), program);
        Process process = new ProcessBuilder("sh", "-eu", "-c", commands).directory(room.toFile())
                .redirectErrorStream(true).start();
        String printed = new String(process.getInputStream().readAllBytes()).strip();
        CHECKS.same("the commands of the example end well", process.waitFor(), 0);
        return printed;
    }

    // ---- what is told

    private static void calls(String readme, String document) {
        Matcher m = FACE.matcher(document);
        int calls = 0;
        while (m.find()) {
            calls++;
            String call = "`" + m.group(1) + "(" + m.group(2).replaceAll("int ", "") + ")`";
            CHECKS.same(call + " is told", readme.contains(call) ? 1 : 0, 1);
            for (Deed deed : Deed.values()) {
                if (deed.section.endsWith(": " + m.group(1))) {
                    CHECKS.same(call + " is told with its units", readme.contains(call + " (" + deed.units) ? 1 : 0, 1);
                }
            }
        }
        CHECKS.same("the calls of the document", calls, 32);
    }

    private static void orders(String readme) {
        List<String> orders = all(ORDER, readme);
        StringBuilder letters = new StringBuilder();
        for (String order : orders) {
            letters.append(order.charAt(0));
            CHECKS.same("the order " + order, Model.told(() -> Setup.typed(order).run()), "1");
        }
        CHECKS.same("the letters of the orders", letters.toString(), "bswpceli");
    }

    private static void tests(String readme) throws IOException {
        List<String> told = all(TEST, readme);
        try (Stream<Path> files = Files.list(TESTS)) {
            files.map(f -> f.getFileName().toString()).filter(f -> f.endsWith("Test.java")).forEach(f -> {
                String name = f.replace(".java", "");
                CHECKS.same(name + " is told", told.contains(name) ? 1 : 0, 1);
            });
        }
        for (String name : told) {
            CHECKS.same(name + " is a test", Files.exists(TESTS.resolve(name + ".java")) ? 1 : 0, 1);
        }
    }
}
