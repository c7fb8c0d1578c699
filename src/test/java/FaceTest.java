import java.io.IOException;
import java.lang.reflect.Constructor;
import java.lang.reflect.Field;
import java.lang.reflect.Method;
import java.lang.reflect.Modifier;
import java.nio.file.Files;
import java.nio.file.Path;
import java.util.Arrays;
import java.util.Set;
import java.util.TreeSet;
import java.util.regex.Matcher;
import java.util.regex.Pattern;

/** The public face of the document, and the rules of LANGUAGE.md that can be seen in the compiled classes. */
public final class FaceTest {
    private static final Check CHECK = new Check();
    private static final Class<?> FABRIC = LetterFabric.class;
    private static final Set<String> FACE = new TreeSet<>(Arrays.asList(
            "int tells 3", "int puts 3", "int slot 0", "int undo 0", "int clear 0", "int letter 2", "int line 1",
            "int queue 2", "int turned 1", "int sorted 1", "int straight 1", "int drain 0", "int lost 1",
            "int fewest 1", "long share 3", "int sees 2", "int forget 0", "int unseen 0", "int keep 1",
            "int back 1", "int count 1"));
    private static final Set<String> CONSTANTS = Set.of("BAD", "STATE", "FULL", "NONE");

    private static boolean isPublic(int modifiers) {
        return Modifier.isPublic(modifiers);
    }

    private static boolean isPrivate(int modifiers) {
        return Modifier.isPrivate(modifiers);
    }

    private static void faceStands() {
        int modifiers = FABRIC.getModifiers();
        CHECK.holds("the class is public and final", isPublic(modifiers) && Modifier.isFinal(modifiers));
        Set<String> found = new TreeSet<>();
        for (Method m : FABRIC.getDeclaredMethods()) {
            if (isPublic(m.getModifiers())) {
                found.add(m.getReturnType() + " " + m.getName() + " " + m.getParameterCount());
                for (Class<?> type : m.getParameterTypes()) {
                    CHECK.holds(m + " takes ints alone", type == int.class);
                }
            } else {
                CHECK.holds(m + " is private", isPrivate(m.getModifiers()));
            }
        }
        CHECK.holds("the methods are " + FACE + ", found " + found, found.equals(FACE));
        for (Constructor<?> c : FABRIC.getDeclaredConstructors()) {
            CHECK.holds(c + " is the document's", isPublic(c.getModifiers()) && c.getParameterCount() == 0);
        }
    }

    private static void fieldsArePrivate() {
        for (Field f : FABRIC.getDeclaredFields()) {
            int modifiers = f.getModifiers();
            if (CONSTANTS.contains(f.getName())) {
                CHECK.holds(f + " is a public constant",
                        isPublic(modifiers) && Modifier.isStatic(modifiers) && Modifier.isFinal(modifiers));
            } else {
                CHECK.holds(f + " is private", isPrivate(modifiers));
            }
            CHECK.holds(f + " is no static state", !Modifier.isStatic(modifiers) || Modifier.isFinal(modifiers));
        }
        CHECK.due("BAD", LetterFabric.BAD, -1);
        CHECK.due("STATE", LetterFabric.STATE, -2);
        CHECK.due("FULL", LetterFabric.FULL, -3);
        CHECK.due("NONE", LetterFabric.NONE, -9);
    }

    private static String read(String... path) throws IOException {
        return Files.readString(Path.of(System.getProperty("project.root", "."), path));
    }

    /** Each line of the document's face stands in the program, with its names, in the same order. */
    private static void faceIsAsWritten(String document, String program) {
        Matcher face = Pattern.compile("(?s)```java\n(.*?)```").matcher(document);
        CHECK.holds("the document has a face", face.find());
        int at = 0;
        int methods = 0;
        for (String line : face.group(1).split("\n")) {
            String words = line.strip();
            if (!words.equals("}")) {
                boolean method = words.endsWith(");");
                int next = program.indexOf(method ? words.replace(");", ") {") : words, at);
                CHECK.holds("'" + words + "' stands in the program in its place", next >= 0);
                at = Math.max(at, next);
                methods += method ? 1 : 0;
            }
        }
        CHECK.due("the constructor and the methods", methods, 1 + FACE.size());
    }

    private static int placeOf(String call, String program) {
        Matcher m = Pattern.compile("\n    public (int|long) " + call + "\\(").matcher(program);
        CHECK.holds(call + " stands in the program", m.find());
        return m.start();
    }

    /** The words that the document puts ahead of each group of calls stand ahead of them, and behind all others. */
    private static void faceIsInOrder(String document, String program) {
        Matcher m = Pattern.compile("Ahead of the calls (.*?) the interface says: (---- .*?)\\.\n").matcher(document);
        int last = 0;
        int calls = 0;
        while (m.find()) {
            int heading = program.indexOf("\n    // " + m.group(2) + "\n");
            CHECK.holds("'" + m.group(2) + "' stands behind the calls before", heading > last);
            for (String call : m.group(1).replace("`", "").split(", ")) {
                CHECK.holds(call + " stands behind '" + m.group(2) + "'", placeOf(call, program) > heading);
                last = Math.max(last, placeOf(call, program));
                calls++;
            }
        }
        CHECK.due("calls that stand behind words", calls, FACE.size());
    }

    private static void classIsSmall(Class<?> c) {
        int fields = 0;
        for (Field f : c.getDeclaredFields()) {
            fields += Modifier.isStatic(f.getModifiers()) ? 0 : 1;
        }
        CHECK.holds(c + " has some twenty fields", fields <= 20);
        Set<String> faceNames = new TreeSet<>();
        for (String row : FACE) {
            faceNames.add(row.split(" ")[1]);
        }
        for (Method m : c.getDeclaredMethods()) {
            CHECK.holds(m + " takes at most seven", m.getParameterCount() <= 7);
            boolean ofTheFace = c == FABRIC && isPublic(m.getModifiers());
            CHECK.holds(m + " bears no public method's name", ofTheFace || !faceNames.contains(m.getName()));
        }
    }

    public static void main(String[] args) throws IOException {
        String document = read("..", "shared", "DOC.md");
        String program = read("src", "main", "java", "LetterFabric.java");
        faceStands();
        fieldsArePrivate();
        faceIsAsWritten(document, program);
        faceIsInOrder(document, program);
        Class<?>[] inside = FABRIC.getDeclaredClasses();
        CHECK.holds("at most some twelve classes", inside.length < 12);
        classIsSmall(FABRIC);
        for (Class<?> c : inside) {
            CHECK.holds(c + " is static", Modifier.isStatic(c.getModifiers()));
            CHECK.holds(c + " is not public", !isPublic(c.getModifiers()));
            classIsSmall(c);
        }
        CHECK.end();
    }
}
