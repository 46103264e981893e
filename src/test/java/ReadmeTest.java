import java.io.File;
import java.io.IOException;
import java.lang.reflect.Method;
import java.lang.reflect.Modifier;
import java.nio.file.Files;
import java.nio.file.Path;
import java.util.regex.Matcher;
import java.util.regex.Pattern;

/** README.md: its example answers what stands beside each call, and it leaves out no call, class or test. */
public final class ReadmeTest {
    private static final Pattern CALL = Pattern.compile("desk\\.(\\w+)\\((.*?)\\);\\s+// (-?\\d+|true|false):.*");

    private final Checks checks = new Checks();

    public static void main(String[] args) throws IOException, ReflectiveOperationException {
        Path file = Path.of(System.getProperty("desk.readme", "README.md")).toAbsolutePath();
        String text = Files.readString(file);
        ReadmeTest test = new ReadmeTest();
        test.example(text.substring(text.indexOf("```java\n") + 8));
        test.classes(text);
        test.tests(text, file.resolveSibling("src/test/java").toFile());
        test.checks.end();
    }

    private void example(String text) throws ReflectiveOperationException {
        String[] lines = text.substring(0, text.indexOf("```")).split("\n");
        checks.due("the example's first line", lines[0], "UsageDesk desk = new UsageDesk();");
        UsageDesk desk = new UsageDesk();
        for (int i = 1; i < lines.length; i++) {
            Matcher call = CALL.matcher(lines[i]);
            if (call.matches()) {
                checks.due(lines[i], answer(desk, call.group(1), call.group(2)), call.group(3));
            } else {
                checks.due("a line without a call", lines[i].isEmpty() || lines[i].startsWith("// ") ? "" : lines[i], "");
            }
        }
    }

    private static String answer(UsageDesk desk, String name, String list) throws ReflectiveOperationException {
        String[] words = list.isEmpty() ? new String[0] : list.split(", ");
        Object[] arguments = new Object[words.length];
        for (int i = 0; i < words.length; i++) {
            boolean isAnswer = words[i].equals("true") || words[i].equals("false");
            arguments[i] = isAnswer ? (Object) Boolean.valueOf(words[i]) : (Object) Integer.decode(words[i]);
        }
        for (Method method : UsageDesk.class.getMethods()) {
            if (method.getName().equals(name)) {
                return String.valueOf(method.invoke(desk, arguments));
            }
        }
        return "no such method";
    }

    private void classes(String text) {
        for (Method method : UsageDesk.class.getDeclaredMethods()) {
            boolean isCalled = !Modifier.isPublic(method.getModifiers()) || text.contains("\ndesk." + method.getName() + "(");
            checks.due("README.md's example calls " + method.getName(), isCalled ? 1 : 0, 1);
        }
        for (Class<?> c : UsageDesk.class.getDeclaredClasses()) {
            checks.due("README.md names " + c.getSimpleName(), text.contains("| `" + c.getSimpleName() + "` |") ? 1 : 0, 1);
        }
    }

    private void tests(String text, File folder) {
        checks.due("README.md names .ci/run", text.contains("\n.ci/run\n") ? 1 : 0, 1);
        String[] names = folder.list();
        checks.due("there are tests in " + folder, names != null && names.length > 0 ? 1 : 0, 1);
        for (String name : names == null ? new String[0] : names) {
            String test = name.replace(".java", "");
            checks.due("README.md names " + test, text.contains("`" + test + "`") ? 1 : 0, 1);
        }
    }
}
