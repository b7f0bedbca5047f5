import java.io.IOException;
import java.nio.file.Files;
import java.nio.file.Path;
import java.util.LinkedHashMap;
import java.util.List;
import java.util.Map;
import java.util.function.Consumer;

/**
 * Tests that each name the promise and the sentence that they are for. Each sentence is looked up in the document,
 * and in the end none of the description and of the promises may be left without a test.
 */
final class Sentences {
    static final int PROMISES = 36;

    private static final Path DOCUMENT = Path.of("../shared/DOC.md");
    // What stands on a line of its own, and asks for nothing.
    private static final List<String> TITLES = List.of("Roads, bridges", "Years, inspections", "Posts, ways",
            "Repairs, bids", "History, errors", "The constants:",
            "The constructor and the methods follow, a promise each: the signature, then what it does.");

    private final Map<String, Section> sections = new LinkedHashMap<>();
    private int tests = 0;
    private int answers = 0;
    private int failed = 0;

    /** The text of a section, and which of its signs stand in a sentence that has a test. */
    private static final class Section {
        final StringBuilder text = new StringBuilder();
        boolean[] tested = new boolean[0];

        void add(String line) {
            text.append(text.length() == 0 ? "" : " ").append(line.trim().replaceAll("\\s+", " "));
            tested = new boolean[text.length()];
        }

        /** Takes the first place of the words that has no test yet, or else the first one at all. */
        boolean take(String words) {
            int at = text.indexOf(words);
            int next = at;
            while (next >= 0 && tested[next]) {
                next = text.indexOf(words, next + 1);
            }
            at = next >= 0 ? next : at;
            for (int i = at; at >= 0 && i < at + words.length(); i++) {
                tested[i] = true;
            }
            return at >= 0;
        }

        /** The parts without a test; signs that are no letters and no digits need none. */
        String left() {
            StringBuilder left = new StringBuilder();
            for (int i = 0; i < text.length(); i++) {
                left.append(tested[i] ? ' ' : text.charAt(i));
            }
            return left.toString().replaceAll("[^A-Za-z0-9]+", " ").trim();
        }
    }

    Sentences() throws IOException {
        Section section = new Section();
        for (String line : Files.readAllLines(DOCUMENT)) {
            if (line.startsWith("## ")) {
                section = new Section();
                sections.put(line.substring(3).replaceAll(":.*", ""), section);
            } else if (!line.isBlank() && !isTitle(line)) {
                section.add(line);
            }
        }
    }

    private static boolean isTitle(String line) {
        return line.startsWith("#") || line.startsWith("----") || line.matches("`[^`]*`") || TITLES.contains(line);
    }

    /** A test of a sentence of a promise. */
    void promise(int number, String sentence, Consumer<Check> test) {
        run("Promise " + number, "Promise " + number, sentence, test);
    }

    /** A test of a sentence of the description, with the promise of the call that it is about. */
    void description(int number, String sentence, Consumer<Check> test) {
        run("Description", "Promise " + number + ", by the description", sentence, test);
    }

    /** A test of a sentence of the description that is about no promise alone. */
    void description(String about, String sentence, Consumer<Check> test) {
        run("Description", about + ", by the description", sentence, test);
    }

    /** A test of a sentence about the whole. */
    void whole(String sentence, Consumer<Check> test) {
        run("What it is", "Promises 1 to " + PROMISES, sentence, test);
    }

    private void run(String place, String name, String sentence, Consumer<Check> test) {
        Check check = new Check(name + ": \"" + sentence + "\"");
        Section section = sections.get(place);
        check.due("the document says so (1)", section != null && section.take(sentence) ? 1 : 0, 1);
        int before = check.passed() + check.failed();
        test.accept(check);
        check.due("the test asks something (1)", check.passed() + check.failed() > before ? 1 : 0, 1);
        tests++;
        answers += check.passed();
        failed += check.failed();
    }

    private void whole(String place) {
        Section section = sections.get(place);
        String left = section == null ? "the section" : section.left();
        if (!left.isEmpty()) {
            failed++;
            System.out.println(place + ": no test for: " + left);
        }
    }

    /** Fails if a test failed, or a sentence has none. */
    void end() {
        whole("Description");
        for (int number = 1; number <= PROMISES; number++) {
            whole("Promise " + number);
        }
        System.out.println(tests + " sentences, " + answers + " answers as due, " + failed + " failed");
        if (failed != 0) {
            System.exit(1);
        }
    }
}
