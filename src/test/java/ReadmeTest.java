import java.io.IOException;
import java.lang.reflect.InvocationTargetException;
import java.lang.reflect.Method;
import java.lang.reflect.Modifier;
import java.nio.file.DirectoryStream;
import java.nio.file.Files;
import java.nio.file.Path;
import java.util.List;
import java.util.regex.Matcher;
import java.util.regex.Pattern;

/** The example in README.md answers what stands there, and README.md names all calls and tests. */
public final class ReadmeTest {
    private static final Path README = Path.of("README.md");
    private static final Path TESTS = Path.of("src", "test", "java");
    private static final Pattern MAKING = Pattern.compile("QuakeRehearsal x = new QuakeRehearsal\\(\\);");
    private static final Pattern TYPING = Pattern.compile(
        "for \\(char c : \"([^\"]*)\"\\.toCharArray\\(\\)\\) \\{ x\\.append\\(c\\); }");
    private static final Pattern CALL = Pattern.compile("x\\.(\\w+)\\((.*?)\\); +// (throws \\w+|[^ ]+): .+");

    private ReadmeTest() {
    }

    public static void main(String[] args) throws IOException {
        Check.begin("README.md");
        List<String> lines = Files.readAllLines(README);
        example(lines);
        names(String.join("\n", lines));
        Check.end();
    }

    private static void example(List<String> lines) {
        int begin = lines.indexOf("```java");
        int end = begin + 1;
        QuakeRehearsal x = new QuakeRehearsal();
        while (begin >= 0 && end < lines.size() && !lines.get(end).equals("```")) {
            follow(x, lines.get(end), end == begin + 1);
            end++;
        }
        Check.same("the example has more than 20 lines", true, end - begin > 20);
    }

    private static void follow(QuakeRehearsal x, String line, boolean isFirst) {
        Matcher typing = TYPING.matcher(line);
        Matcher call = CALL.matcher(line);
        if (typing.matches()) {
            Check.type(x, typing.group(1));
        } else if (call.matches()) {
            Check.same(line, call.group(3), answer(x, call.group(1), call.group(2)));
        } else {
            Check.same(line + " makes the object, as the first line", isFirst, MAKING.matcher(line).matches());
            Check.same(line + " can be read", true, isFirst);
        }
    }

    private static String answer(QuakeRehearsal x, String name, String told) {
        String[] parts = told.isEmpty() ? new String[0] : told.split(", ");
        for (Method method : QuakeRehearsal.class.getMethods()) {
            if (method.getName().equals(name) && method.getParameterCount() == parts.length) {
                return answer(x, method, parts);
            }
        }
        return "no such call";
    }

    private static String answer(QuakeRehearsal x, Method method, String[] parts) {
        Object[] arguments = new Object[parts.length];
        for (int i = 0; i < parts.length; i++) {
            boolean isNumber = method.getParameterTypes()[i] == int.class;
            arguments[i] = isNumber ? (Object) Integer.valueOf(parts[i]) : (Object) Boolean.valueOf(parts[i]);
        }
        try {
            return String.valueOf(method.invoke(x, arguments));
        } catch (InvocationTargetException e) {
            return "throws " + e.getCause().getClass().getSimpleName();
        } catch (IllegalAccessException e) {
            return "cannot be called";
        }
    }

    private static void names(String text) throws IOException {
        for (Method method : QuakeRehearsal.class.getDeclaredMethods()) {
            if (Modifier.isPublic(method.getModifiers())) {
                Check.same(method.getName() + " is named", true, text.contains("`" + method.getName() + "("));
            }
        }
        try (DirectoryStream<Path> files = Files.newDirectoryStream(TESTS, "*.java")) {
            for (Path file : files) {
                String name = file.getFileName().toString().replace(".java", "");
                Check.same(name + " is named", true, text.contains("`" + name + "`"));
            }
        }
    }
}
