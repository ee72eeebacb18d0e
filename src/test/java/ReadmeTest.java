import java.io.File;
import java.io.IOException;
import java.lang.reflect.Method;
import java.lang.reflect.Modifier;
import java.nio.file.Files;
import java.nio.file.Path;
import java.util.regex.Matcher;
import java.util.regex.Pattern;

/** README.md: each call of its example answers what stands behind it, and no call and no test is left out. */
public final class ReadmeTest {
    private static final Pattern CALL = Pattern.compile("street\\.(\\w+)\\(([^)]*)\\);\\s*// (-?\\w+): .*");

    private ReadmeTest() {
    }

    public static void main(String[] args) throws IOException, ReflectiveOperationException {
        String page = Files.readString(Path.of("README.md"));
        example(page);
        for (Method method : NextDoorBrides.class.getDeclaredMethods()) {
            if (Modifier.isPublic(method.getModifiers())) {
                Due.yes("README.md names " + method.getName(), page.contains("`" + method.getName() + "`"));
            }
        }
        for (String file : new File("src/test/java").list()) {
            String name = file.replace(".java", "");
            Due.yes("README.md names " + name, !name.endsWith("Test") || page.contains("| `" + name + "` |"));
        }
        Due.finish();
    }

    private static void example(String page) throws ReflectiveOperationException {
        int from = page.indexOf("```java");
        int calls = 0;
        NextDoorBrides street = new NextDoorBrides();
        for (String line : page.substring(from, page.indexOf("```\n", from + 3)).split("\n")) {
            if (line.startsWith("street.")) {
                Matcher call = CALL.matcher(line);
                Due.yes(line + " tells its answer", call.matches());
                Due.same(line, answer(street, call.group(1), call.group(2)), call.group(3));
                calls++;
            }
        }
        Due.yes("there are calls in the example", calls > 9);
    }

    private static String answer(NextDoorBrides street, String name, String given) throws ReflectiveOperationException {
        for (Method method : NextDoorBrides.class.getDeclaredMethods()) {
            if (method.getName().equals(name) && Modifier.isPublic(method.getModifiers())) {
                String[] parts = given.isEmpty() ? new String[0] : given.split(", ");
                Object[] values = new Object[parts.length];
                for (int i = 0; i < parts.length; i++) {
                    boolean number = method.getParameterTypes()[i] == int.class;
                    values[i] = number ? (Object) Integer.decode(parts[i]) : (Object) Boolean.valueOf(parts[i]);
                }
                return String.valueOf(method.invoke(street, values));
            }
        }
        return "no such call";
    }
}
