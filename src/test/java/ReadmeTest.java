import java.io.File;
import java.io.IOException;
import java.lang.reflect.InvocationTargetException;
import java.lang.reflect.Method;
import java.nio.file.Files;
import java.nio.file.Path;
import java.util.regex.Matcher;
import java.util.regex.Pattern;

/** README.md: its example answers as its comments tell, and it names every call and every test. */
public final class ReadmeTest {
    private static final Pattern TYPED = Pattern.compile("\"([^\"]*)\"\\.toCharArray\\(\\)");
    private static final Pattern CALL = Pattern.compile("guard\\.(\\w+)\\(([-0-9, ]+)\\); +// (?:([^: ]+):)?.*");

    public static void main(String[] args) throws IOException, ReflectiveOperationException {
        String readme = Files.readString(Path.of("README.md"));
        example(readme);
        for (Method method : StackGuard.class.getDeclaredMethods()) {
            if (java.lang.reflect.Modifier.isPublic(method.getModifiers())) {
                Expect.same("README.md has a row for " + method.getName(), true,
                        readme.contains("\n| `" + method.getName() + "("));
            }
        }
        for (String file : new File("src/test/java").list()) {
            if (file.endsWith("Test.java")) {
                Expect.same("README.md has a row for " + file, true,
                        readme.contains("\n| `" + file.replace(".java", "` |")));
            }
        }
        Expect.finish();
    }

    private static void example(String readme) throws ReflectiveOperationException {
        int start = readme.indexOf("```java") + 7;
        StackGuard guard = new StackGuard();
        int answers = 0;
        for (String line : readme.substring(start, readme.indexOf("```", start)).split("\n")) {
            Matcher typed = TYPED.matcher(line);
            Matcher call = CALL.matcher(line);
            if (typed.find()) {
                for (char c : typed.group(1).toCharArray()) {
                    guard.type(c);
                }
            } else if (call.matches()) {
                String got = answer(guard, call.group(1), call.group(2).split(", "));
                Expect.same(line, call.group(3) == null ? "null" : call.group(3), got);
                answers++;
            }
        }
        Expect.same("calls of the example that were held against it", 16, answers);
    }

    private static String answer(StackGuard guard, String name, String[] numbers) throws ReflectiveOperationException {
        Class<?>[] types = new Class<?>[numbers.length];
        Object[] values = new Object[numbers.length];
        for (int i = 0; i < numbers.length; i++) {
            types[i] = int.class;
            values[i] = Integer.valueOf(numbers[i]);
        }
        try {
            return String.valueOf(StackGuard.class.getMethod(name, types).invoke(guard, values));
        } catch (InvocationTargetException e) {
            return e.getCause().getClass().getSimpleName();
        }
    }
}
