import java.io.IOException;
import java.lang.reflect.Method;
import java.lang.reflect.Modifier;
import java.nio.file.DirectoryStream;
import java.nio.file.Files;
import java.nio.file.Path;
import java.util.regex.Matcher;
import java.util.regex.Pattern;

/** What README.md says holds: its example, and the names of all calls and tests. */
public final class ReadmeTest {
    private static final Due due = new Due();
    private static final Pattern LINE = Pattern.compile("(?m)^x\\.(\\w+)\\(([^)]*)\\);\\s*// (.*)$");

    public static void main(String[] args) throws IOException, ReflectiveOperationException {
        String page = Files.readString(Path.of("README.md"));
        example(page);
        calls(page);
        tests(page);
        due.end();
    }

    private static void example(String page) throws ReflectiveOperationException {
        PassTheSalt x = new PassTheSalt();
        Matcher line = LINE.matcher(page);
        int lines = 0;
        while (line.find()) {
            lines++;
            Matcher told = Pattern.compile("^(-?\\d+): ").matcher(line.group(3));
            boolean tells = told.find();
            due.is("tells an answer: " + line.group(), tells ? 1 : 0, 1);
            if (tells) {
                due.is(line.group(), answered(x, line.group(1), line.group(2)), Long.parseLong(told.group(1)));
            }
        }
        due.is("the example has lines", lines > 10 ? 1 : 0, 1);
    }

    private static long answered(PassTheSalt x, String name, String written) throws ReflectiveOperationException {
        Method call = callOf(name);
        Class<?>[] types = call.getParameterTypes();
        String[] parts = written.isEmpty() ? new String[0] : written.split(", ");
        due.is("parameters of " + name, parts.length, types.length);
        Object[] values = new Object[types.length];
        for (int k = 0; k < values.length; k++) {
            long value = Long.decode(parts[k].replace("L", ""));
            if (types[k] == long.class) {
                values[k] = value;
            } else {
                values[k] = (int) value;
            }
        }
        return ((Number) call.invoke(x, values)).longValue();
    }

    private static Method callOf(String name) throws NoSuchMethodException {
        for (Method m : PassTheSalt.class.getDeclaredMethods()) {
            if (Modifier.isPublic(m.getModifiers()) && m.getName().equals(name)) {
                return m;
            }
        }
        throw new NoSuchMethodException(name);
    }

    private static void calls(String page) {
        for (Method m : PassTheSalt.class.getDeclaredMethods()) {
            if (Modifier.isPublic(m.getModifiers())) {
                due.is("README.md names the call " + m.getName(), page.contains("`" + m.getName() + "`") ? 1 : 0, 1);
            }
        }
    }

    private static void tests(String page) throws IOException {
        try (DirectoryStream<Path> files = Files.newDirectoryStream(Path.of("src/test/java"), "*.java")) {
            for (Path file : files) {
                String name = file.getFileName().toString().replace(".java", "");
                due.is("README.md names " + name, page.contains("`" + name + "`") ? 1 : 0, 1);
            }
        }
    }
}
