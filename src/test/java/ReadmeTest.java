import java.io.IOException;
import java.lang.reflect.Method;
import java.lang.reflect.Modifier;
import java.nio.file.Files;
import java.nio.file.Path;
import java.util.regex.Matcher;
import java.util.regex.Pattern;

/** README.md's example gives the answers that stand behind its calls, and the page leaves no call of the face out. */
public final class ReadmeTest {
    private static final Pattern CALL = Pattern.compile("fair\\.([a-z]+)\\((.*)\\); +// (\\S+)");
    private static final String START = "```java\n";

    public static void main(String[] args) throws ReflectiveOperationException, IOException {
        String page = Files.readString(Path.of("README.md"));
        theExample(exampleOf(page));
        theCalls(page);
        Check.end();
    }

    private static String exampleOf(String page) {
        int from = page.indexOf(START);
        int to = page.indexOf("```\n", from + START.length());
        Check.due("the page has an example", from >= 0 && to > from, true);
        return from >= 0 && to > from ? page.substring(from + START.length(), to) : "";
    }

    private static void theExample(String example) throws ReflectiveOperationException {
        IceFair fair = new IceFair();
        for (String line : example.split("\n")) {
            Matcher call = CALL.matcher(line);
            if (call.matches()) {
                Check.dueText(line, answerOf(fair, call.group(1), call.group(2)), call.group(3));
            } else {
                boolean plain = line.isEmpty() || line.startsWith("// ") || line.equals("IceFair fair = new IceFair();");
                Check.due("a line of the example without an answer: " + line, plain, true);
            }
        }
    }

    private static String answerOf(IceFair fair, String name, String arguments) throws ReflectiveOperationException {
        for (Method method : IceFair.class.getDeclaredMethods()) {
            if (Modifier.isPublic(method.getModifiers()) && method.getName().equals(name)) {
                return String.valueOf(method.invoke(fair, valuesOf(arguments)));
            }
        }
        return "no such call";
    }

    private static Object[] valuesOf(String arguments) {
        String[] written = arguments.isEmpty() ? new String[0] : arguments.split(", ");
        Object[] values = new Object[written.length];
        for (int i = 0; i < written.length; i++) {
            boolean truth = written[i].equals("true") || written[i].equals("false");
            if (truth) {
                values[i] = Boolean.valueOf(written[i]);
            } else {
                values[i] = Integer.decode(written[i]);
            }
        }
        return values;
    }

    private static void theCalls(String page) {
        for (Method method : IceFair.class.getDeclaredMethods()) {
            if (Modifier.isPublic(method.getModifiers())) {
                Check.due("in the example: " + method.getName(), page.contains("fair." + method.getName() + "("), true);
                Check.due("in the table: " + method.getName(), page.contains("| `" + method.getName() + "("), true);
            }
        }
    }
}
