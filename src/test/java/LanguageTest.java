import java.io.IOException;
import java.nio.file.Files;
import java.nio.file.Path;
import java.util.regex.Matcher;
import java.util.regex.Pattern;

/** The rules of LANGUAGE.md that can be seen in the program's text. */
public final class LanguageTest {
    private static final Check CHECK = new Check();
    private static final String[] RULED_OUT = {
        "\\b(throw|throws|try|catch|finally|synchronized|assert|import|package|protected|native|volatile)\\b",
        "->", "::", "@", "\"", "\\w+Exact\\b", "\\bstatic\\s*\\{", "\\bObject\\b", "\\b(equals|hashCode|toString)\\b",
        "\\bwhile\\s*\\(\\s*true", "for\\s*\\(\\s*;\\s*;", "[^\\x00-\\x7f]", "\\b(Thread|Random|System\\.(?!arraycopy))",
    };
    private static final int MOST_LINES = 60;

    private static String withoutComments(String text) {
        return text.replaceAll("(?s)/\\*.*?\\*/", "").replaceAll("//[^\n]*", "");
    }

    private static void nothingRuledOut(String code) {
        for (String pattern : RULED_OUT) {
            Matcher m = Pattern.compile(pattern).matcher(code);
            CHECK.holds(pattern + " does not stand in the program", !m.find());
        }
    }

    private static void methodsAreShort(String code) {
        Matcher m = Pattern.compile("(?m)^( {4}| {8})[A-Za-z][^;=\\n]*\\([^;=\\n]*\\) \\{\\n").matcher(code);
        int methods = 0;
        while (m.find()) {
            methods++;
            int end = code.indexOf("\n" + m.group(1) + "}\n", m.start());
            long lines = code.substring(m.start(), end).lines().count();
            CHECK.holds(m.group().trim() + " is short", lines <= MOST_LINES);
        }
        CHECK.holds("methods were found", methods > 40);
    }

    /** Rows are made in constructors and used again: a run's calls make nothing. */
    private static void onlyConstructorsMake(String code) {
        for (String line : code.split("\n")) {
            if (line.contains("new ")) {
                boolean asAField = line.matches(" {4,8}(private )?final .* = new .*;");
                boolean inConstructor = line.matches(" +(images|ring)\\[i\\] = new Fabric\\(\\);");
                CHECK.holds(line.trim() + " stands in a constructor", asAField || inConstructor);
            }
        }
    }

    public static void main(String[] args) throws IOException {
        String root = System.getProperty("project.root", ".");
        String text = Files.readString(Path.of(root, "src", "main", "java", "LetterFabric.java"));
        String code = withoutComments(text);
        nothingRuledOut(code);
        methodsAreShort(code);
        onlyConstructorsMake(code);
        CHECK.end();
    }
}
