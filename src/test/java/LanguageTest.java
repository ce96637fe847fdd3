import java.io.IOException;
import java.nio.file.Files;
import java.nio.file.Path;
import java.util.regex.Matcher;
import java.util.regex.Pattern;

/** Those rules of ../shared/LANGUAGE.md that a look at the program's words can tell. */
public final class LanguageTest {
    private static final String[] BARRED = {
        "\\bimport\\b", "\\bpackage\\b", "->", "::", "\\bsynchronized\\b", "\\bassert\\b", "\\bfinally\\b",
        "\\btry\\s*\\(", "\\bstatic\\s*\\{", "\\bvar\\b", "\\bprotected\\b", "\\bObject\\b", "Exact\\(",
        "\\b(equals|hashCode|toString)\\([^()]*\\)\\s*\\{", "\"\\s*\\+", "\\+\\s*\"",
        "\\bextends\\s+\\w*(Exception|Error|Throwable)\\b",
        "\\bcatch\\s*\\([^)]*(ArrayIndexOutOfBounds|StringIndexOutOfBounds|NullPointer|ClassCast|NegativeArraySize"
            + "|ArrayStore|\\bException|Throwable|Error)",
        "\\bthrow\\s+(?!new (IllegalStateException|IllegalArgumentException|IndexOutOfBoundsException"
            + "|ArithmeticException|UnsupportedOperationException|NoSuchElementException|RuntimeException)\\()",
        "\\bSystem\\.(?!arraycopy)", "\\bstatic\\s+(?!final\\b)[\\w\\[\\]]+\\s+\\w+\\s*[=;]"};
    private static final int MOST_LINES = 60;
    private static final int MOST_PARAMETERS = 7;
    private static final int MOST_CLASSES = 12;

    public static void main(String[] args) throws IOException {
        String source = Files.readString(Path.of("src/main/java/Orderlattice.java"));
        String code = source.replaceAll("(?s)/\\*.*?\\*/", "").replaceAll("//[^\n]*", "");
        for (String barred : BARRED) {
            Matcher found = Pattern.compile(barred).matcher(code);
            Check.due("in the program " + barred, found.find() ? found.group() : null, null);
        }
        Check.due("signs 1 to 127 alone", source.chars().allMatch(sign -> sign >= 1 && sign <= 127), true);
        long classes = Pattern.compile("\\b(class|enum|interface|record) [A-Z]").matcher(code).results().count();
        Check.due("some twelve classes at most, " + classes, classes <= MOST_CLASSES, true);
        methodsAreShort(code);
        Check.end();
    }

    private static void methodsAreShort(String code) {
        Matcher method = Pattern.compile("(?ms)^( {4}| {8})(?!private static final class)\\w[^;{}=]*\\(([^;{}]*?)\\)"
                + "[^;{}()]*\\{\n.*?^\\1\\}").matcher(code);
        int methods = 0;
        while (method.find()) {
            methods++;
            String name = method.group().lines().findFirst().orElse("");
            long lines = method.group().lines().count();
            Check.due("a method of " + lines + " lines is short: " + name, lines <= MOST_LINES, true);
            int parameters = method.group(2).split(",").length;
            Check.due("a method of " + parameters + " parameters: " + name, parameters <= MOST_PARAMETERS, true);
        }
        Check.due("methods were found", methods > 60, true);
    }
}
