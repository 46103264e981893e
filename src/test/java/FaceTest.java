import java.io.IOException;
import java.lang.management.ManagementFactory;
import java.lang.reflect.Constructor;
import java.lang.reflect.Executable;
import java.lang.reflect.Field;
import java.lang.reflect.Member;
import java.lang.reflect.Method;
import java.lang.reflect.Modifier;
import java.nio.file.Files;
import java.nio.file.Path;
import java.util.Set;
import java.util.StringJoiner;
import java.util.TreeSet;
import java.util.regex.Matcher;
import java.util.regex.Pattern;

/** The class's public face, and those rules of LANGUAGE.md that a test can see. */
public final class FaceTest {
    /** What the rules leave out, as it would stand in the source. */
    private static final String[] BARRED = {"->", "::", "catch", "finally", "synchronized", "assert ", "static {",
        "System.", "Thread", "Exact(", "instanceof", "double", "float", "goto", "import java.io", "HashMap", "hashCode"};

    private final Checks checks = new Checks();

    public static void main(String[] args) throws IOException {
        FaceTest test = new FaceTest();
        test.face();
        test.nestedClasses();
        test.source(Files.readString(Path.of(System.getProperty("desk.source", "src/main/java/UsageDesk.java"))));
        test.nothingIsMadeByCalls();
        test.checks.end();
    }

    /** The document's face and the class's, each as lines without the parameters' names. */
    private void face() {
        Class<?> c = UsageDesk.class;
        checks.due("public and final", c.getModifiers(), Modifier.PUBLIC | Modifier.FINAL);
        Set<String> has = new TreeSet<>();
        has.add("class UsageDesk {");
        has.add("}");
        for (Method m : c.getDeclaredMethods()) {
            addOrSeeThatPrivate(has, m, m.getReturnType() + " " + m.getName() + parameters(m) + thrown(m));
        }
        for (Constructor<?> made : c.getDeclaredConstructors()) {
            addOrSeeThatPrivate(has, made, "UsageDesk" + parameters(made) + thrown(made));
        }
        for (Field f : c.getDeclaredFields()) {
            addOrSeeThatPrivate(has, f, f.getType() + " " + f.getName() + " = " + UsageDesk.NONE + ";");
            boolean fixed = !Modifier.isStatic(f.getModifiers()) || Modifier.isFinal(f.getModifiers());
            checks.due(f + " is no static state", fixed ? 1 : 0, 1);
        }
        Set<String> due = new TreeSet<>();
        for (String line : new Document().face().split("\n")) {
            due.add(line.trim().replaceAll("^public (?:static )?(?:final )?", "").replaceAll("(int|boolean) \\w+(?=[,)])", "$1"));
        }
        checks.due("lines of the face", due.size(), 24);
        checks.due("face", String.join("\n", has), String.join("\n", due));
    }

    private void addOrSeeThatPrivate(Set<String> face, Member member, String line) {
        if (Modifier.isPublic(member.getModifiers())) {
            face.add(line);
        } else {
            checks.due(member + " is private", Modifier.isPrivate(member.getModifiers()) ? 1 : 0, 1);
        }
    }

    private static String parameters(Executable called) {
        StringJoiner all = new StringJoiner(", ", "(", ")");
        for (Class<?> type : called.getParameterTypes()) {
            all.add(type.getSimpleName());
        }
        return all.toString();
    }

    private static String thrown(Executable called) {
        StringJoiner all = new StringJoiner(", ", " throws ", ";").setEmptyValue(";");
        for (Class<?> type : called.getExceptionTypes()) {
            all.add(type.getSimpleName());
        }
        return all.toString();
    }

    private void nestedClasses() {
        Set<String> names = new TreeSet<>();
        for (Method m : UsageDesk.class.getMethods()) {
            names.add(m.getName());
        }
        Class<?>[] nested = UsageDesk.class.getDeclaredClasses();
        checks.due("some twelve classes", nested.length < 12 ? 1 : 0, 1);
        for (Class<?> c : nested) {
            checks.due(c + " is static", Modifier.isStatic(c.getModifiers()) ? 1 : 0, 1);
            checks.due(c + " is not public", Modifier.isPublic(c.getModifiers()) ? 1 : 0, 0);
            checks.due(c + " has some twenty fields", c.getDeclaredFields().length <= 20 ? 1 : 0, 1);
            for (Method m : c.getDeclaredMethods()) {
                checks.due(m + " bears a name of its own", names.contains(m.getName()) ? 1 : 0, 0);
                checks.due(m + " has few parameters", m.getParameterCount() <= 7 ? 1 : 0, 1);
            }
        }
    }

    private void source(String text) {
        String code = text.replaceAll("(?s)/\\*.*?\\*/", "").replaceAll("//.*", "");
        for (String barred : BARRED) {
            checks.due("uses of " + barred, code.split(Pattern.quote(barred), -1).length - 1, 0);
        }
        Matcher imports = Pattern.compile("import (.*);").matcher(code);
        while (imports.find()) {
            checks.due("import", imports.group(1), "java.util.Arrays");
        }
        checks.due("signs above 127", text.chars().filter(sign -> sign > 127).count(), 0);
        int start = 0;
        String[] lines = text.split("\n");
        for (int i = 0; i < lines.length; i++) {
            if (lines[i].matches(" {4}(?: {4})?\\S.*\\) (?:throws .*)?\\{")) {
                start = i;
            } else if (lines[i].matches(" {4}(?: {4})?\\}")) {
                checks.due("line " + (start + 1) + ": a method of some sixty lines", i - start <= 60 || start == 0 ? 1 : 0, 1);
                start = 0;
            }
        }
    }

    /** All calls of a run live in one room, so only the constructor may take of it. */
    private void nothingIsMadeByCalls() {
        com.sun.management.ThreadMXBean bean =
                (com.sun.management.ThreadMXBean) ManagementFactory.getThreadMXBean();
        long id = Thread.currentThread().getId();
        useAll(new UsageDesk());
        long before = bean.getThreadAllocatedBytes(id);
        UsageDesk desk = new UsageDesk();
        long made = bean.getThreadAllocatedBytes(id);
        useAll(desk);
        long used = bean.getThreadAllocatedBytes(id);
        checks.due("a desk is made of at most 400,000 bytes", made - before <= 400_000 ? 1 : 0, 1);
        checks.due("500 calls make next to nothing", used - made <= 2_000 ? 1 : 0, 1);
    }

    private static void useAll(UsageDesk d) {
        for (int i = 0; i < 200; i++) {
            d.push(i * i % 7 % 3);
            if (i % 9 == 8) {
                d.row(i % 2 == 0);
            }
        }
        for (int i = 0; i < 25; i++) {
            d.learn();
            d.least();
            d.feed(0x28616229, 0x2A206120, 0x28617C62, 0x29202020, 0);
            d.routine(14);
            d.hold();
            d.broken(i);
            d.push(i % 8);
            d.mend();
            d.takes();
            d.rank(i, 1);
            d.habit(i % 8, 0, 1);
            d.count(6);
            d.told(i % 20, 3);
        }
    }
}
