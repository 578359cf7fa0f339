import java.io.IOException;
import java.nio.file.Files;
import java.nio.file.Path;
import java.util.ArrayList;
import java.util.List;
import java.util.Set;
import java.util.TreeSet;
import java.util.regex.Matcher;
import java.util.regex.Pattern;

/**
 * Writes the test ReadmeCalls of what README.md shows: its blocks of Java as they stand, one
 * after the other, each call with the answer that its line gives. So README.md can't show an
 * answer that the class does not give, nor leave a call of its face out.
 *
 * Called with the path of README.md and the directory to write ReadmeCalls.java to.
 */
public final class ReadmeToTest {
    // x.why(0);      // 6: the C at place 3 did not hold
    private static final Pattern CALL_WITH_ANSWER = Pattern.compile(
            "(\\w+\\.(\\w+)\\(.*\\)); +// (true|false|-?\\d+|throws \\w+)(: .*)?");
    private static final Pattern MAKES_AN_OBJECT = Pattern.compile("OriginRules \\w+ = new OriginRules\\(\\);");
    // What a loop does over and over has no one answer; it is indented
    private static final Pattern WITHOUT_ANSWER = Pattern.compile(" .*|String .*|for .*|}|");

    private final List<String> lines = new ArrayList<>();
    private final Set<String> shown = new TreeSet<>();

    public static void main(String[] args) throws IOException {
        ReadmeToTest test = new ReadmeToTest();
        test.takeBlocks(Files.readAllLines(Path.of(args[0])));
        Files.writeString(Path.of(args[1], "ReadmeCalls.java"), test.whole());
    }

    private void takeBlocks(List<String> readme) {
        boolean inBlock = false;
        for (int i = 0; i < readme.size(); i++) {
            String line = readme.get(i);
            if (line.startsWith("```")) {
                inBlock = line.equals("```java");
            } else if (inBlock) {
                takeLine(i + 1, line);
            }
        }
    }

    private void takeLine(int number, String line) {
        Matcher call = CALL_WITH_ANSWER.matcher(line);
        if (call.matches()) {
            shown.add(call.group(2));
            lines.add("due(" + number + ", " + quoted(call.group(1)) + ", " + quoted(call.group(3))
                    + ", () -> " + call.group(1) + ");");
        } else if (MAKES_AN_OBJECT.matcher(line).matches() || WITHOUT_ANSWER.matcher(line).matches()) {
            lines.add(line);
        } else {
            throw new IllegalArgumentException("README.md, line " + number + " gives no answer: " + line);
        }
    }

    private static String quoted(String text) {
        return '"' + text.replace("\\", "\\\\").replace("\"", "\\\"") + '"';
    }

    private String whole() {
        StringBuilder names = new StringBuilder();
        for (String name : shown) {
            names.append(names.length() == 0 ? "" : ", ").append(quoted(name));
        }
        return String.join("\n",
                "import java.lang.reflect.Method;",
                "import java.lang.reflect.Modifier;",
                "import java.util.Set;",
                "public final class ReadmeCalls {",
                "interface Call { Object answer(); }",
                "private static int wrong = 0;",
                "private static int calls = 0;",
                "private static void due(int line, String what, String want, Call call) {",
                "String got;",
                "calls++;",
                "try { got = String.valueOf(call.answer()); }",
                "catch (RuntimeException e) { got = \"throws \" + e.getClass().getSimpleName(); }",
                "if (!got.equals(want)) { wrong++; System.out.println(\"README.md, line \" + line + \": \""
                        + " + what + \" answered \" + got + \", shown is \" + want); }",
                "}",
                "private static void dueShown(Set<String> shown) {",
                "for (Method m : OriginRules.class.getDeclaredMethods()) {",
                "if (Modifier.isPublic(m.getModifiers()) && !shown.contains(m.getName())) {",
                "wrong++; System.out.println(\"README.md shows no call of \" + m.getName()); }",
                "}",
                "}",
                "public static void main(String[] args) {",
                String.join("\n", lines),
                "dueShown(Set.of(" + names + "));",
                "System.out.println(wrong == 0 ? calls + \" calls answer as README.md shows\""
                        + " : wrong + \" calls do not\");",
                "if (wrong != 0) { System.exit(1); }",
                "}",
                "}",
                "");
    }
}
