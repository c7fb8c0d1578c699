import java.io.IOException;
import java.lang.reflect.Method;
import java.lang.reflect.Modifier;
import java.net.URL;
import java.net.URLClassLoader;
import java.nio.file.Files;
import java.nio.file.Path;
import java.util.ArrayList;
import java.util.List;
import java.util.Set;
import java.util.TreeSet;
import java.util.regex.Matcher;
import java.util.regex.Pattern;
import java.util.stream.Stream;

/**
 * README.md: its examples are compiled and run as they stand there, and none is missing. The examples become a class
 * whose method tell(String, long, long) hands each call, its answer and what README.md says of it to this test.
 */
public final class ReadmeTest {
    private static final String NEW_OBJECT = "LetterFabric x = new LetterFabric();";
    private static final Pattern A_CALL = Pattern.compile("(\\s*)(x\\.(\\w+)\\(.*\\));\\s*// ([\\w%* +-]+?)(: .*)?");
    private static final Pattern OTHER_JAVA = Pattern.compile("\\s*((for|if) \\(.*\\) \\{|\\})|");
    private static final Pattern A_PROMISE = Pattern.compile("(?s)## Promise \\d+: (\\w+)\n(.*?)(?=\n## )");
    private static final Pattern A_CONSTANT = Pattern.compile("\\b(BAD|STATE|FULL|NONE)\\b");
    private static final int MOST_CALLS = 512;

    private static final Check CHECK = new Check();
    private static int callsOfObject;

    private ReadmeTest() {}

    /** The examples of README.md call these two. */
    public static void begin() {
        callsOfObject = 0;
    }

    public static void tell(String call, long got, long want) {
        callsOfObject++;
        CHECK.due(call, got, want);
        CHECK.holds(call + " is one of 512 calls", callsOfObject <= MOST_CALLS);
    }

    private static String read(String... path) throws IOException {
        return Files.readString(Path.of(System.getProperty("project.root", "."), path));
    }

    private static List<String> examples(String readme) {
        List<String> all = new ArrayList<>();
        Matcher m = Pattern.compile("(?s)```java\n(.*?)```").matcher(readme);
        while (m.find()) {
            all.add(m.group(1));
        }
        return all;
    }

    /** A line of README.md as Java that tells what the call in it answered. */
    private static String asCode(String line) {
        Matcher call = A_CALL.matcher(line);
        if (line.equals(NEW_OBJECT)) {
            return line + " ReadmeTest.begin();";
        }
        if (call.matches()) {
            return call.group(1) + "ReadmeTest.tell(\"" + call.group(2) + "\", " + call.group(2) + ", "
                    + call.group(4) + ");";
        }
        CHECK.holds("'" + line + "' is a call with its answer", OTHER_JAVA.matcher(line).matches());
        return line;
    }

    private static String asClass(List<String> examples) {
        StringBuilder code = new StringBuilder("public final class Examples {\n");
        for (String name : List.of("BAD", "STATE", "FULL", "NONE")) {
            code.append("static final int ").append(name).append(" = LetterFabric.").append(name).append(";\n");
        }
        code.append("public static void run() {\n");
        for (String example : examples) {
            CHECK.holds("an example begins with a new object", example.startsWith(NEW_OBJECT + "\n"));
            code.append("{\n");
            example.lines().forEach(line -> code.append(asCode(line)).append('\n'));
            code.append("}\n");
        }
        return code.append("}\n}\n").toString();
    }

    private static void run(String code) throws Exception {
        Path folder = Files.createTempDirectory("readme");
        Path file = folder.resolve("Examples.java");
        Files.writeString(file, code);
        Process javac = new ProcessBuilder("javac", "--release", "17", "-cp", System.getProperty("java.class.path"),
                "-d", folder.toString(), file.toString()).inheritIO().start();
        CHECK.due("javac of the examples", javac.waitFor(), 0);
        if (javac.exitValue() == 0) {
            try (URLClassLoader loader = new URLClassLoader(new URL[] {folder.toUri().toURL()})) {
                loader.loadClass("Examples").getMethod("run").invoke(null);
            }
        }
        try (Stream<Path> files = Files.list(folder)) {
            for (Path made : files.toList()) {
                Files.delete(made);
            }
        }
        Files.delete(folder);
    }

    /** Each call with each kind of answer that it is shown with: 'puts', 'puts FULL', .. */
    private static Set<String> shown(List<String> examples) {
        Set<String> all = new TreeSet<>();
        for (String example : examples) {
            for (String line : example.split("\n")) {
                Matcher call = A_CALL.matcher(line);
                if (call.matches()) {
                    boolean constant = A_CONSTANT.matcher(call.group(4)).matches();
                    all.add(constant ? call.group(3) + " " + call.group(4) : call.group(3));
                }
            }
        }
        return all;
    }

    private static void eachCallIsShown(Set<String> shown) {
        for (Method m : LetterFabric.class.getDeclaredMethods()) {
            if (Modifier.isPublic(m.getModifiers())) {
                CHECK.holds("README.md has an example of " + m.getName(), shown.contains(m.getName()));
            }
        }
    }

    private static void eachRefusalIsShown(Set<String> shown, String document) {
        Matcher promise = A_PROMISE.matcher(document);
        int promises = 0;
        while (promise.find()) {
            promises++;
            Matcher constant = A_CONSTANT.matcher(promise.group(2));
            while (constant.find()) {
                String due = promise.group(1) + " " + constant.group();
                CHECK.holds("README.md has an example of " + due, shown.contains(due));
            }
        }
        CHECK.due("promises 2 to 22 were found", promises, 21);
    }

    /** The numbers of letter() and count() are told by examples one by one. */
    private static void eachNumberIsShown(String readme) {
        for (int what = 0; what <= 6; what++) {
            CHECK.holds("README.md shows letter(.., " + what + ")", readme.contains("\nx.letter(2, " + what + "); "));
        }
        for (int what = 0; what <= 11; what++) {
            CHECK.holds("README.md shows count(" + what + ")", readme.contains("\nx.count(" + what + "); "));
        }
    }

    private static void eachTestIsNamed(String readme) throws IOException {
        Set<String> tests = new TreeSet<>();
        try (Stream<Path> files = Files.list(Path.of(System.getProperty("project.root", "."), "src", "test", "java"))) {
            files.map(f -> f.getFileName().toString()).filter(f -> f.endsWith("Test.java"))
                    .forEach(f -> tests.add(f.substring(0, f.length() - ".java".length())));
        }
        Set<String> named = new TreeSet<>();
        Matcher row = Pattern.compile("(?m)^\\| `(\\w+Test)` \\|").matcher(readme);
        while (row.find()) {
            named.add(row.group(1));
        }
        CHECK.holds("README.md names the tests " + tests + ", found " + named, tests.equals(named));
        CHECK.holds("README.md says how to run them", readme.contains("\n.ci/run\n"));
    }

    public static void main(String[] args) throws Exception {
        String readme = read("README.md");
        List<String> examples = examples(readme);
        run(asClass(examples));
        Set<String> shown = shown(examples);
        eachCallIsShown(shown);
        eachRefusalIsShown(shown, read("..", "shared", "DOC.md"));
        eachNumberIsShown(readme);
        eachTestIsNamed(readme);
        CHECK.end();
    }
}
