import java.io.IOException;
import java.nio.file.Files;
import java.nio.file.Path;
import java.util.regex.Matcher;
import java.util.regex.Pattern;

/** Those rules of ../shared/LANGUAGE.md that a look at the program's words can tell. */
public final class LanguageTest {
    private static final String[] BARRED = {
        "\\bimport\\b", "\\bpackage\\b", "->", "::", "\\bsynchronized\\b", "\\bassert\\b", "\\bfinally\\b",
        "\\bcatch\\b", "\\binstanceof\\b", "\\bstatic\\s*\\{", "\\bvar\\b", "\\bprotected\\b", "\\bObject\\b",
        "\\bSystem\\b", "Exact\\(", "\\bequals\\(", "\\bhashCode\\(", "\\btoString\\(\\)\\s*\\{", "\\bdouble\\b",
        "\\bfloat\\b", "\"\\s*\\+", "\\+\\s*\""};
    private static final int MOST_LINES = 60;

    public static void main(String[] args) throws IOException {
        String source = Files.readString(Path.of("src/main/java/Orderlattice.java"));
        String code = source.replaceAll("(?s)/\\*.*?\\*/", "").replaceAll("//[^\n]*", "");
        for (String barred : BARRED) {
            Matcher found = Pattern.compile(barred).matcher(code);
            Check.due("in the program " + barred, found.find() ? found.group() : null, null);
        }
        Check.due("signs 1 to 127 alone", source.chars().allMatch(sign -> sign >= 1 && sign <= 127), true);
        methodsAreShort(code);
        Check.end();
    }

    private static void methodsAreShort(String code) {
        Matcher method = Pattern.compile("(?ms)^( {4}| {8})(?!private static final class)\\w[^;{}=]*\\([^;{}]*\\{\n.*?^\\1\\}")
                .matcher(code);
        int methods = 0;
        while (method.find()) {
            methods++;
            long lines = method.group().lines().count();
            Check.due("a method of " + lines + " lines is short: " + method.group().lines().findFirst().orElse(""),
                    lines <= MOST_LINES, true);
        }
        Check.due("methods were found", methods > 60, true);
    }
}
