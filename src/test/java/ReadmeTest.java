import java.lang.reflect.Method;
import java.lang.reflect.Modifier;
import java.nio.file.Files;
import java.nio.file.Path;
import java.util.regex.Matcher;
import java.util.regex.Pattern;

/** README.md: its example answers what stands beside each call, and its table has each call of the face. */
public final class ReadmeTest {
    private static final Pattern EXAMPLE = Pattern.compile("(?s)```java\n(.*?)```");
    private static final Pattern CALL =
            Pattern.compile("x\\.(\\w+)\\((.*)\\); +// (\"[^\"]*\"|[-\\w]+)(: .*)?");
    private static final String BEGIN = "Orderlattice x = new Orderlattice();";

    public static void main(String[] args) throws Exception {
        String readme = Files.readString(Path.of("README.md"));
        Matcher example = EXAMPLE.matcher(readme);
        boolean isThere = example.find();
        Check.due("README: an example is there", isThere, true);
        if (isThere) {
            runExample(example.group(1).split("\n"));
        }
        for (Method method : Orderlattice.class.getDeclaredMethods()) {
            if (Modifier.isPublic(method.getModifiers())) {
                dueInTable(readme, method.getName(), method.getParameterCount());
            }
        }
        Check.end();
    }

    private static void runExample(String[] lines) throws Exception {
        Orderlattice x = new Orderlattice();
        Check.due("README: the example's first line", lines[0], BEGIN);
        for (int i = 1; i < lines.length; i++) {
            Matcher call = CALL.matcher(lines[i]);
            boolean isCall = call.matches();
            Check.due("README: a call with its answer: " + lines[i], isCall, true);
            if (isCall) {
                Check.due("README: " + lines[i], told(answer(x, call.group(1), call.group(2))), call.group(3));
            }
        }
    }

    private static Object answer(Orderlattice x, String name, String arguments) throws Exception {
        String[] words = arguments.isEmpty() ? new String[0] : arguments.split(", ");
        int[] numbers = new int[words.length];
        for (int i = 0; i < words.length; i++) {
            boolean isFlag = words[i].equals("true") || words[i].equals("false");
            numbers[i] = isFlag ? (words[i].equals("true") ? 1 : 0) : Integer.parseInt(words[i]);
        }
        return Calls.answer(x, name, numbers);
    }

    /** As the example writes it: a text between quotes, an exception by its name. */
    private static String told(Object answer) {
        if (answer instanceof Class) {
            return ((Class<?>) answer).getSimpleName();
        }
        return answer instanceof String ? "\"" + answer + "\"" : String.valueOf(answer);
    }

    private static void dueInTable(String readme, String name, int arguments) {
        Matcher call = Pattern.compile("(?m)^\\| .*`" + name + "\\(([^)]*)\\)`").matcher(readme);
        boolean isThere = call.find();
        Check.due("README: the table has " + name, isThere, true);
        if (isThere) {
            int told = call.group(1).isEmpty() ? 0 : call.group(1).split(", ").length;
            Check.due("README: how many arguments of " + name, told, arguments);
        }
    }
}
