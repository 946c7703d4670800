import java.io.IOException;
import java.lang.reflect.Method;
import java.lang.reflect.Modifier;
import java.nio.file.Files;
import java.nio.file.Path;
import java.util.Set;
import java.util.TreeSet;
import java.util.regex.Matcher;
import java.util.regex.Pattern;

/** README.md tells every call of the class, and what it says that calls answer is so. */
public final class ReadmeTest {
    private static final String EXAMPLE_BEGINS = "```java\nTreeCoverForge forge = new TreeCoverForge();\n";
    private static final Pattern CALL =
            Pattern.compile("forge\\.(\\w+)\\(([-0-9, ]*)\\); *// (-?[0-9]+|true|false)(:.*)?");

    public static void main(String[] args) throws IOException, ReflectiveOperationException {
        String text = Files.readString(Path.of("README.md"));
        int begin = text.indexOf(EXAMPLE_BEGINS);
        int end = text.indexOf("\n```\n", begin);
        Check.due("README.md has an example", begin >= 0 && end > begin, true);
        if (begin >= 0 && end > begin) {
            answersAreAsTold(text.substring(begin + EXAMPLE_BEGINS.length(), end));
        }
        everyCallIsTold(text);
        howToRunTheTestsIsTold(text);
        Check.finish();
    }

    private static void answersAreAsTold(String example) throws ReflectiveOperationException {
        TreeCoverForge forge = new TreeCoverForge();
        for (String line : example.split("\n")) {
            Matcher call = CALL.matcher(line);
            if (call.matches()) {
                String answer = String.valueOf(answerOf(forge, call.group(1), call.group(2)));
                Check.due(line + " (it is " + answer + ")", answer.equals(call.group(3)), true);
            } else {
                Check.due("a line that tells a call: " + line, line.isEmpty(), true);
            }
        }
    }

    private static Object answerOf(TreeCoverForge forge, String name, String arguments)
            throws ReflectiveOperationException {
        String[] parts = arguments.isEmpty() ? new String[0] : arguments.split(", ");
        Class<?>[] types = new Class<?>[parts.length];
        Object[] values = new Object[parts.length];
        for (int i = 0; i < parts.length; i++) {
            types[i] = int.class;
            values[i] = Integer.valueOf(parts[i]);
        }
        return TreeCoverForge.class.getMethod(name, types).invoke(forge, values);
    }

    private static void everyCallIsTold(String text) {
        Set<String> names = new TreeSet<>();
        for (Method method : TreeCoverForge.class.getDeclaredMethods()) {
            if (Modifier.isPublic(method.getModifiers())) {
                names.add(method.getName());
            }
        }
        for (String name : names) {
            Check.due("README.md tells `" + name + "(", text.contains("`" + name + "("), true);
        }
    }

    private static void howToRunTheTestsIsTold(String text) {
        Check.due("README.md names .ci/run", text.contains("\n    .ci/run\n"), true);
    }
}
