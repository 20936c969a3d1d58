import java.io.IOException;
import java.io.UncheckedIOException;
import java.nio.file.Files;
import java.nio.file.Path;
import java.util.ArrayList;
import java.util.HashSet;
import java.util.LinkedHashMap;
import java.util.List;
import java.util.Map;
import java.util.Set;
import java.util.function.Predicate;
import java.util.function.Supplier;
import java.util.function.ToLongFunction;

/**
 * Tests by the sentences of the document. Each check belongs to the sentence that was named last, and has a name that
 * no other one has; a sentence that the document does not have, and one that is not tested, are told as wrong.
 */
final class Book {
    private static final Path DOCUMENT = Path.of("../shared/DOC.md");
    private static final List<Supplier<LineFields>> STATES =
            List.of(LineFields::new, Setup::busy, Setup::poor, Setup::rich);
    private static final String[] STATE_NAMES = {"new", "busy", "poor", "rich"};

    private final Checks checks = new Checks();
    private final Map<String, List<String>> sections = new LinkedHashMap<>();
    private final Set<String> tested = new HashSet<>();
    private final Set<String> names = new HashSet<>();
    private String section = "";
    private String sentence = "";

    Book() {
        try {
            read(Files.readAllLines(DOCUMENT));
        } catch (IOException e) {
            throw new UncheckedIOException(e);
        }
    }

    private void read(List<String> lines) {
        List<String> sentences = new ArrayList<>();
        for (String line : lines) {
            // the one heading of the document that is not marked as such
            if (line.startsWith("#") || line.equals("Snapshots, undo")) {
                sentences = new ArrayList<>();
                sections.put(line.replaceFirst("^#+ ", ""), sentences);
            } else if (!line.isBlank() && !line.startsWith("```") && !line.equals("}")) {
                String text = line.strip().replaceFirst("^- ", "").replaceFirst("^`[^`]*\\([^`]*`: ", "");
                sentences.addAll(List.of(text.split("(?<=\\.)\\s+(?=[A-Z(])")));
            }
        }
    }

    void section(String title) {
        section = title;
        checks.same("the document has \"" + title + "\"", sections.containsKey(title) ? 1 : 0, 1);
    }

    /** All sentences of the section; where it is code, all its lines. */
    List<String> sentences() {
        return sections.getOrDefault(section, List.of());
    }

    /** Names a sentence of the section by its first words, or by all of them. */
    void sentence(String words) {
        List<String> found = new ArrayList<>(sentences());
        found.removeIf(s -> !s.startsWith(words));
        checks.same("sentences of \"" + section + "\" that begin with \"" + words + "\"", found.size(), 1);
        sentence = found.isEmpty() ? words : found.get(0);
    }

    private String label(String what) {
        tested.add(section + sentence);
        String label = section + ", \"" + sentence + "\": " + what;
        if (!names.add(label)) {
            checks.same("tests by the name " + label, 2, 1);
        }
        return label;
    }

    void same(String what, long got, long due) {
        checks.same(label(what), got, due);
    }

    void same(String what, String got, String due) {
        checks.same(label(what), got, due);
    }

    void isField(String what, LineFields x, int slot, int... coefficients) {
        checks.isField(label(what), x, slot, coefficients);
    }

    void isFlow(String what, LineFields x, int slot, int... coefficients) {
        checks.isFlow(label(what), x, slot, coefficients);
    }

    /** The call throws just this, and no call shows that it was made. */
    void refused(String what, Supplier<LineFields> made, Class<? extends RuntimeException> due,
            ToLongFunction<LineFields> call) {
        LineFields x = made.get();
        String got;
        try {
            got = "answered " + call.applyAsLong(x);
        } catch (RuntimeException e) {
            got = e.getClass().getSimpleName();
        }
        same(what, got, due.getSimpleName());
        same(what + " changes nothing", Portrait.of(x), Portrait.of(made.get()));
    }

    /** For calls that are refused whatever the state. */
    void refusedAlways(String what, Class<? extends RuntimeException> due, ToLongFunction<LineFields> call) {
        for (int i = 0; i < STATES.size(); i++) {
            refused(what + ", " + STATE_NAMES[i], STATES.get(i), due, call);
        }
    }

    /** The call saves a state; with that one undone, no call but for what the effect does shows that it was made. */
    void undoable(String what, Supplier<LineFields> made, ToLongFunction<LineFields> call,
            ToLongFunction<LineFields> effect) {
        LineFields x = made.get();
        LineFields twin = made.get();
        int saved = x.count(8);
        call.applyAsLong(x);
        same(what + " saves a state", x.count(8), saved + 1);
        same(what + " is undone", x.undo(), saved);
        effect.applyAsLong(twin);
        same(what + " is undone whole", Portrait.of(x), Portrait.of(twin));
    }

    void undoable(String what, Supplier<LineFields> made, ToLongFunction<LineFields> call) {
        undoable(what, made, call, x -> 0);
    }

    /** The call leaves the saved states as they are. */
    void notUndoable(String what, Supplier<LineFields> made, ToLongFunction<LineFields> call) {
        LineFields x = made.get();
        int saved = x.count(8);
        call.applyAsLong(x);
        same(what + " saves no state", x.count(8), saved);
    }

    void end(String test, Predicate<String> ofTest) {
        for (Map.Entry<String, List<String>> of : sections.entrySet()) {
            if (ofTest.test(of.getKey())) {
                for (String each : of.getValue()) {
                    checks.same("tests of " + of.getKey() + ", \"" + each + "\"", tested.contains(of.getKey() + each)
                            ? 1 : 0, 1);
                }
            }
        }
        checks.end(test);
    }
}
