import java.io.IOException;
import java.lang.reflect.Method;
import java.lang.reflect.Modifier;
import java.nio.file.Files;
import java.nio.file.Path;
import java.util.Set;
import java.util.TreeSet;
import java.util.regex.Matcher;
import java.util.regex.Pattern;

/** The calls that README.md tells are made, and must answer what it tells; its tables must leave nothing out. */
public final class ReadmeTest {
    private static final Check CHECK = new Check();
    private static final Path README = Path.of("README.md");
    private static final Pattern CALL = Pattern.compile("x\\.(\\w+)\\((.*)\\); *// (-?\\d+|true|false)\\b.*");

    private ReadmeTest() {
    }

    public static void main(String[] args) throws IOException, ReflectiveOperationException {
        String readme = Files.readString(README);
        FirstIn told = new FirstIn();
        Check.feed(told, block(readme, "```text\n"));
        CHECK.due("the court's text", told.fault(), FirstIn.NONE);
        example(block(readme, "```java\n"));
        calls(readme);
        tests(readme);
        CHECK.close("ReadmeTest");
    }

    private static String block(String readme, String opening) {
        int from = readme.indexOf(opening) + opening.length();
        return readme.substring(from, readme.indexOf("```", from));
    }

    private static void example(String lines) throws ReflectiveOperationException {
        FirstIn x = new FirstIn();
        int made = 0;
        for (String line : lines.split("\n")) {
            Matcher call = CALL.matcher(line);
            if (call.matches()) {
                CHECK.due(line, answer(x, call.group(1), call.group(2)), numberOf(call.group(3)));
                made++;
            }
            CHECK.due("a call without its answer: " + line, line.startsWith("x.") && !call.matches(), false);
        }
        CHECK.due("some calls are told", made >= 10, true);
    }

    private static long answer(FirstIn x, String name, String told) throws ReflectiveOperationException {
        String[] words = told.isEmpty() ? new String[0] : told.split(", ");
        for (Method m : FirstIn.class.getMethods()) {
            if (m.getName().equals(name) && m.getParameterCount() == words.length) {
                Object[] values = new Object[words.length];
                for (int k = 0; k < words.length; k++) {
                    boolean truth = m.getParameterTypes()[k] == boolean.class;
                    values[k] = truth ? (Object) Boolean.valueOf(words[k]) : (Object) Integer.decode(words[k]);
                }
                return numberOf(m.invoke(x, values).toString());
            }
        }
        throw new IllegalStateException("README.md tells a call that is none: " + name);
    }

    private static long numberOf(String word) {
        if (word.equals("true") || word.equals("false")) {
            return word.equals("true") ? 1 : 0;
        }
        return Long.parseLong(word);
    }

    private static void calls(String readme) {
        for (Method m : FirstIn.class.getDeclaredMethods()) {
            boolean open = Modifier.isPublic(m.getModifiers());
            CHECK.due(m.getName() + " is told", !open || readme.contains("`" + m.getName() + "`"), true);
        }
    }

    private static void tests(String readme) throws IOException {
        Set<String> told = new TreeSet<>();
        Matcher row = Pattern.compile("\\| (\\w+Test) \\|").matcher(readme);
        while (row.find()) {
            told.add(row.group(1));
        }
        Set<String> there = new TreeSet<>();
        try (var files = Files.list(Path.of("src/test/java"))) {
            files.map(f -> f.getFileName().toString()).filter(f -> f.endsWith("Test.java"))
                .forEach(f -> there.add(f.replace(".java", "")));
        }
        CHECK.due("the tests told " + told + ", there are " + there, told.equals(there), true);
    }
}
