import java.io.IOException;
import java.lang.reflect.InvocationTargetException;
import java.lang.reflect.Method;
import java.nio.file.Files;
import java.nio.file.Path;
import java.util.TreeSet;
import java.util.regex.Matcher;
import java.util.regex.Pattern;

/** The run of calls that README.md shows answers what README.md says, and has every call of the face. */
public final class ReadmeTest {
    private static final Pattern LINE = Pattern.compile("x\\.(\\w+)\\((.*?)\\); +// (?:(-?\\d+|true|false): )?.+");
    private static final String FIRST_LINE = "GlassStack x = new GlassStack();";

    private final Due due = new Due();
    private final GlassStack x = new GlassStack();
    private final TreeSet<String> shown = new TreeSet<>();

    private static Object argument(String text) {
        if (text.equals("true") || text.equals("false")) {
            return text.equals("true");
        }
        return text.equals("GlassStack.NONE") ? GlassStack.NONE : Integer.parseInt(text);
    }

    private static Object[] arguments(String text) {
        String[] texts = text.isEmpty() ? new String[0] : text.split(", ");
        Object[] arguments = new Object[texts.length];
        for (int i = 0; i < texts.length; i++) {
            arguments[i] = argument(texts[i]);
        }
        return arguments;
    }

    private static Method named(String name) {
        for (Method method : GlassStack.class.getDeclaredMethods()) {
            if (method.getName().equals(name)) {
                return method;
            }
        }
        throw new IllegalStateException("README.md shows a call that is none: " + name);
    }

    /** A call without an answer stands without one: its null is told as the group that did not match. */
    private void line(String text) throws IllegalAccessException, InvocationTargetException {
        Matcher parts = LINE.matcher(text);
        due.isTrue("a call with its words: " + text, parts.matches());
        if (parts.matches()) {
            Object answer = named(parts.group(1)).invoke(x, arguments(parts.group(2)));
            due.equal(text, String.valueOf(answer), String.valueOf(parts.group(3)));
            shown.add(parts.group(1));
        }
    }

    private void run() throws IOException, IllegalAccessException, InvocationTargetException {
        String text = Files.readString(Path.of("README.md"));
        String[] lines = text.split("```java\n")[1].split("```")[0].split("\n");
        due.equal("the first line", lines[0], FIRST_LINE);
        for (int i = 1; i < lines.length; i++) {
            line(lines[i]);
        }
        for (Method method : GlassStack.class.getMethods()) {
            if (method.getDeclaringClass() == GlassStack.class) {
                due.isTrue("README.md shows " + method.getName(), shown.contains(method.getName()));
            }
        }
    }

    public static void main(String[] args) throws IOException, IllegalAccessException, InvocationTargetException {
        ReadmeTest test = new ReadmeTest();
        test.run();
        test.due.end();
    }
}
