import java.io.IOException;
import java.lang.reflect.Constructor;
import java.lang.reflect.Field;
import java.lang.reflect.Method;
import java.lang.reflect.Modifier;
import java.nio.file.Files;
import java.nio.file.Path;
import java.util.Arrays;
import java.util.TreeSet;
import java.util.regex.Matcher;
import java.util.regex.Pattern;

/** The class has the document's face and no more, and its source keeps to what LANGUAGE.md leaves. */
public final class FaceTest {
    private static final String INDEX = " IndexOutOfBoundsException";
    private static final String ILLEGAL = " IllegalArgumentException";
    private static final String NO_SUCH = " NoSuchElementException";
    private static final String[] METHODS = {
        "void edge int int int int" + INDEX + ILLEGAL,
        "int layer int int int int int" + INDEX + ILLEGAL,
        "int drop int int" + INDEX + NO_SUCH,
        "int about int int int" + INDEX + NO_SUCH,
        "void turn int" + INDEX,
        "void copy int" + INDEX,
        "void light int int" + ILLEGAL,
        "int back int boolean int" + INDEX + ILLEGAL,
        "int on int boolean int" + INDEX + ILLEGAL,
        "int entry int int boolean int" + INDEX + ILLEGAL,
        "int sign int int" + INDEX + ILLEGAL,
        "boolean stops int" + INDEX,
        "int less",
        "int extreme int int boolean" + INDEX + ILLEGAL,
        "boolean same",
        "int list int int" + ILLEGAL,
        "void unlist",
        "int choose int int" + INDEX + ILLEGAL,
        "int pane int int int int" + ILLEGAL,
        "int clear",
        "int share int boolean int" + ILLEGAL};
    private static final String RULED_OUT = "\\b(catch|try|finally|synchronized|assert|double|float|Object|List|ArrayList"
        + "|BigInteger|Random|Thread|System\\.(?!arraycopy)\\w+|\\w+Exact|\\w+(Time|Millis))\\b|->|::|static \\{";

    private static String line(Method m) {
        StringBuilder text = new StringBuilder(m.getReturnType().getSimpleName()).append(' ').append(m.getName());
        for (Class<?> c : m.getParameterTypes()) {
            text.append(' ').append(c.getSimpleName());
        }
        for (Class<?> c : m.getExceptionTypes()) {
            text.append(' ').append(c.getSimpleName());
        }
        return text.toString();
    }

    private static void members(Due due) throws NoSuchFieldException {
        Class<?> face = GlassStack.class;
        TreeSet<String> methods = new TreeSet<>();
        TreeSet<String> names = new TreeSet<>();
        for (Method m : face.getDeclaredMethods()) {
            if (!Modifier.isPrivate(m.getModifiers())) {
                due.isTrue("public: " + m, m.getModifiers() == Modifier.PUBLIC);
                methods.add(line(m));
                names.add(m.getName());
            }
        }
        due.equal("the methods", methods.toString(), new TreeSet<>(Arrays.asList(METHODS)).toString());
        for (Method m : face.getDeclaredMethods()) {
            due.isFalse("private, but named as a public one: " + m,
                Modifier.isPrivate(m.getModifiers()) && names.contains(m.getName()));
        }
        for (Field f : face.getDeclaredFields()) {
            due.isTrue("private field: " + f, f.getName().equals("NONE") || Modifier.isPrivate(f.getModifiers()));
            due.isTrue("static is final: " + f, !Modifier.isStatic(f.getModifiers()) || Modifier.isFinal(f.getModifiers()));
        }
        due.equal("NONE's kind", face.getField("NONE").getModifiers(), Modifier.PUBLIC | Modifier.STATIC | Modifier.FINAL);
        Constructor<?>[] constructors = face.getDeclaredConstructors();
        due.equal("constructors", constructors.length, 1);
        due.equal("the constructor's kind", constructors[0].getModifiers(), Modifier.PUBLIC);
        due.equal("the constructor's parameters", constructors[0].getParameterCount(), 0);
        due.equal("the class's kind", face.getModifiers(), Modifier.PUBLIC | Modifier.FINAL);
        for (Class<?> c : face.getDeclaredClasses()) {
            due.isTrue("a private, static class: " + c,
                Modifier.isPrivate(c.getModifiers()) && Modifier.isStatic(c.getModifiers()));
        }
    }

    private static void source(Due due) throws IOException {
        String text = Files.readString(Path.of("src/main/java/GlassStack.java"));
        String code = text.replaceAll("(?s)/\\*.*?\\*/", "").replaceAll("//.*", "").replaceAll("\".*?\"", "");
        Matcher found = Pattern.compile(RULED_OUT).matcher(code);
        due.equal("what is ruled out of the source", found.find() ? found.group() : "nothing", "nothing");
        for (String line : text.split("\n")) {
            due.isTrue("import: " + line,
                !line.startsWith("import") || line.equals("import java.util.NoSuchElementException;"));
        }
    }

    public static void main(String[] args) throws IOException, NoSuchFieldException {
        Due due = new Due();
        members(due);
        source(due);
        due.end();
    }
}
