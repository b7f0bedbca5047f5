import java.io.IOException;
import java.lang.reflect.Field;
import java.lang.reflect.Method;
import java.lang.reflect.Modifier;
import java.net.URL;
import java.net.URLClassLoader;
import java.nio.charset.StandardCharsets;
import java.nio.file.Files;
import java.nio.file.Path;
import java.util.ArrayList;
import java.util.Comparator;
import java.util.HashSet;
import java.util.List;
import java.util.Map;
import java.util.Set;
import java.util.TreeSet;
import java.util.function.ToIntFunction;
import java.util.regex.Matcher;
import java.util.regex.Pattern;
import java.util.stream.Stream;
import javax.tools.ToolProvider;

/** What README.md says of the use of the class, and of its tests: run, with the answers that it names. */
final class ReadmeTest {
    private static final Path PAGE = Path.of("README.md");
    private static final Path CLASS = Path.of("src/main/java/BridgeRounds.java");
    private static final Path TESTS = Path.of("src/test/java");
    // A call, the answer beside it, and after a colon what it is.
    private static final Pattern CALL = Pattern.compile("(map\\.(\\w+)\\((.*)\\)); +// (-?\\d+|[A-Z_]+)(: .*)?");
    private static final Pattern CODE = Pattern.compile("\\| `([A-Z_]+)` \\| (-?\\d+) \\| .*\\|");
    private static final Pattern LIMIT = Pattern.compile("\\| ([a-z ]+) \\| (\\d+) \\|");
    private static final Pattern TEST = Pattern.compile("\\| `(\\w+Test)` \\| .*\\|");
    // What the calls that ask for a part can be asked for, from 0.
    private static final Map<String, Integer> LAST_PART =
            Map.of("count", 10, "road", 3, "bridge", 8, "component", 5, "line", 3, "bidder", 6);

    private static final Check CHECK = new Check("ReadmeTest");

    private final List<String> lines = Files.readAllLines(PAGE);
    private final List<Block> blocks = new ArrayList<>();

    /** What stands between two fences. */
    private static final class Block {
        final String kind;
        final StringBuilder text = new StringBuilder();

        Block(String kind) {
            this.kind = kind;
        }

        boolean is(String ofKind, String begin) {
            return kind.equals(ofKind) && text.toString().startsWith(begin);
        }
    }

    private ReadmeTest() throws IOException {
        Block open = null;
        for (String line : lines) {
            if (line.startsWith("```")) {
                open = open == null ? new Block(line.substring(3)) : null;
                if (open != null) {
                    blocks.add(open);
                }
            } else if (open != null) {
                open.text.append(line).append('\n');
            }
        }
    }

    public static void main(String[] args) throws Exception {
        ReadmeTest page = new ReadmeTest();
        page.program();
        page.calls();
        page.codes();
        page.limits();
        page.tests();
        CHECK.end();
    }

    private static void due(String what, boolean holds) {
        CHECK.due(what, holds ? 1 : 0, 1);
    }

    private String block(String kind, String begin) {
        for (Block block : blocks) {
            if (block.is(kind, begin)) {
                return block.text.toString();
            }
        }
        due("a block of " + kind + " that begins with " + begin, false);
        return "";
    }

    /** The program is compiled and started as the page says, and prints what the page says. */
    private void program() throws Exception {
        Path folder = Files.createTempDirectory("readme");
        copy(CLASS, folder);
        Files.writeString(folder.resolve("Example.java"), block("java", "public final class Example"));
        String printed = printed(folder, block("sh", "javac -d out src/main/java/BridgeRounds.java Example.java"));
        String said = block("text", "year ");
        due("the program printed\n" + printed + "and the page says\n" + said, printed.equals(said));
        remove(folder);
    }

    /** Each call of the other blocks, in their order and on one object. */
    private void calls() throws Exception {
        StringBuilder body = new StringBuilder();
        List<Matcher> asked = new ArrayList<>();
        for (Block block : blocks) {
            if (block.is("java", "") && !block.is("java", "public")) {
                for (String line : block.text.toString().split("\n")) {
                    Matcher call = CALL.matcher(line);
                    boolean answered = call.matches();
                    due("an answer beside " + line, answered || !line.startsWith("map."));
                    body.append(answered ? "got.add((long) " + call.group(1) + ");" : line).append('\n');
                    if (answered) {
                        asked.add(call);
                    }
                }
            }
        }
        List<Long> got = answers(body.toString());
        due("an answer for each call", got.size() == asked.size());
        for (int i = 0; i < got.size(); i++) {
            CHECK.due(asked.get(i).group(1), got.get(i), answer(asked.get(i).group(4)));
        }
        showsEachCall(asked);
    }

    private static long answer(String named) throws ReflectiveOperationException {
        return named.matches("-?\\d+") ? Long.parseLong(named) : BridgeRounds.class.getField(named).getInt(null);
    }

    private static List<Long> answers(String body) throws Exception {
        Path folder = Files.createTempDirectory("readme");
        Path file = folder.resolve("Calls.java");
        Files.writeString(file, "public final class Calls {\n"
                + "public static java.util.List<Long> run() {\n"
                + "java.util.List<Long> got = new java.util.ArrayList<>();\n"
                + body + "return got;\n}\n}\n");
        int code = ToolProvider.getSystemJavaCompiler().run(null, null, null,
                "-cp", System.getProperty("java.class.path"), "-d", folder.toString(), file.toString());
        due("the calls of the page compile", code == 0);
        List<Long> got = new ArrayList<>();
        if (code == 0) {
            try (URLClassLoader loader = new URLClassLoader(new URL[] {folder.toUri().toURL()})) {
                for (Object one : (List<?>) loader.loadClass("Calls").getMethod("run").invoke(null)) {
                    got.add((Long) one);
                }
            }
        }
        remove(folder);
        return got;
    }

    /** Each method of the face is shown with an answer, and each part that can be asked for. */
    private static void showsEachCall(List<Matcher> asked) {
        Set<String> shown = new HashSet<>();
        for (Matcher call : asked) {
            shown.add(call.group(2));
            shown.add(call.group(2) + " " + call.group(3).replaceAll(".*, ", ""));
        }
        for (Method method : BridgeRounds.class.getDeclaredMethods()) {
            if (Modifier.isPublic(method.getModifiers())) {
                due("the page shows " + method.getName(), shown.contains(method.getName()));
            }
        }
        for (Map.Entry<String, Integer> part : LAST_PART.entrySet()) {
            for (int what = 0; what <= part.getValue(); what++) {
                String name = part.getKey() + " " + what;
                due("the page shows " + name, shown.contains(name));
            }
        }
    }

    /** The codes of the page are the constants of the class, in the order of the document. */
    private void codes() throws ReflectiveOperationException {
        int before = 0;
        Set<String> named = new TreeSet<>();
        for (String line : lines) {
            Matcher row = CODE.matcher(line);
            if (row.matches()) {
                int code = Integer.parseInt(row.group(2));
                CHECK.due(row.group(1), answer(row.group(1)), code);
                due(row.group(1) + " stands in order", code < before);
                before = code;
                named.add(row.group(1));
            }
        }
        Set<String> constants = new TreeSet<>();
        for (Field field : BridgeRounds.class.getFields()) {
            constants.add(field.getName());
        }
        due("the codes " + named + " are the constants " + constants, named.equals(constants));
    }

    private void limits() {
        Set<String> named = new HashSet<>();
        for (String line : lines) {
            Matcher row = LIMIT.matcher(line);
            if (row.matches()) {
                named.add(row.group(1));
                CHECK.due(row.group(1), room(row.group(1)), Integer.parseInt(row.group(2)));
            }
        }
        CHECK.due("how many limits the page names", named.size(), 9);
    }

    private static int room(String of) {
        switch (of) {
            case "towns":
                return fill(new BridgeRounds(), x -> x.addTowns(1));
            case "roads":
                return fill(Fixtures.towns(2), x -> x.addRoad(0, 1, 1));
            case "bridges":
                return fill(Fixtures.roads(4, 8), x -> x.addBridge(x.count(2)));
            case "components of a bridge":
                return fill(Fixtures.bridges(1), x -> x.addComponent(0, 0, 0, 0));
            case "lines of repairs":
                return fill(Fixtures.components(1), x -> x.addLine(0, 0, 1));
            case "bidders":
                return fill(new BridgeRounds(), x -> x.addBidder(0, 1, 1, 1, 1));
            case "states in the history":
                return states();
            case "bytes in the text":
                return fill(new BridgeRounds(), x -> x.type('0'));
            case "years":
                return fill(new BridgeRounds(), x -> x.pass(1));
            default:
                return -1;
        }
    }

    /** How many can be added to what has none yet. */
    private static int fill(BridgeRounds x, ToIntFunction<BridgeRounds> add) {
        int many = 0;
        while (many < 2000 && add.applyAsInt(x) >= 0) {
            many++;
        }
        CHECK.due("one more than " + many, add.applyAsInt(x), BridgeRounds.FULL);
        return many;
    }

    private static int states() {
        BridgeRounds x = new BridgeRounds();
        for (int i = 0; i < 30; i++) {
            x.clearLines();
        }
        int many = 0;
        while (many < 100 && x.undo() >= 0) {
            many++;
        }
        return many;
    }

    /** The page lists the tests that there are, and its commands run them. */
    private void tests() throws Exception {
        Set<String> listed = new TreeSet<>();
        for (String line : lines) {
            Matcher row = TEST.matcher(line);
            if (row.matches()) {
                listed.add(row.group(1));
            }
        }
        Set<String> found = new TreeSet<>();
        Path folder = Files.createTempDirectory("readme");
        copy(CLASS, folder);
        try (Stream<Path> files = Files.list(TESTS)) {
            for (Path file : (Iterable<Path>) files::iterator) {
                String name = file.getFileName().toString();
                copy(file, folder);
                if (name.endsWith("Test.java")) {
                    found.add(name.replace(".java", ""));
                }
            }
        }
        due("the page lists the tests " + found, listed.equals(found));
        // This very test is run by that command, so it can't run it.
        CHECK.due("the command for all tests", block("sh", "bash").equals("bash .ci/run\n") ? 1 : 0, 1);
        due(".ci/run is there", Files.isExecutable(Path.of(".ci/run")));
        String printed = printed(folder, block("sh", "javac -d out src/main/java/BridgeRounds.java src/test/java/*.java"));
        due("the command for a single test printed\n" + printed, printed.endsWith(" passed, 0 failed\n"));
        remove(folder);
    }

    private static void copy(Path file, Path folder) throws IOException {
        Path to = folder.resolve(file);
        Files.createDirectories(to.getParent());
        Files.copy(file, to);
    }

    /** What commands print, which must end with the code 0. */
    private static String printed(Path folder, String commands) throws Exception {
        Process process = new ProcessBuilder("bash", "-e", "-c", commands).directory(folder.toFile())
                .redirectErrorStream(true).start();
        String printed = new String(process.getInputStream().readAllBytes(), StandardCharsets.UTF_8);
        CHECK.due("the code of " + commands + printed, process.waitFor(), 0);
        return printed;
    }

    private static void remove(Path folder) throws IOException {
        List<Path> all;
        try (Stream<Path> files = Files.walk(folder)) {
            all = files.sorted(Comparator.reverseOrder()).toList();
        }
        for (Path path : all) {
            Files.delete(path);
        }
    }
}
