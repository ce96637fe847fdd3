import java.io.File;
import java.io.PrintWriter;
import java.io.StringWriter;
import java.lang.reflect.Method;
import java.lang.reflect.Modifier;
import java.nio.file.Path;
import java.util.ArrayList;
import java.util.Arrays;
import java.util.LinkedHashMap;
import java.util.LinkedHashSet;
import java.util.List;
import java.util.Map;
import java.util.Set;
import java.util.TreeSet;
import java.util.regex.Matcher;
import java.util.regex.Pattern;
import java.util.spi.ToolProvider;

/** Those rules of ../shared/LANGUAGE.md that the compiled program can tell (4, 8, 11 and parts of others). */
public final class CompiledTest {
    private static final int DEEPEST = 8;
    private static final Pattern CLASS = Pattern.compile("(?:[a-z]+ )*(?:class|interface) ([\\w$]+).*\\{");
    private static final Pattern METHOD = Pattern.compile("  (?:[\\w$.\\[\\]<>]+ )*([\\w$]+)\\(.*\\).*;");
    private static final Pattern INVOKE =
            Pattern.compile(".*: invoke\\w+ .*// (?:Interface)?Method (?:(.+)\\.)?\"?(<?\\w+>?)\"?:(.*)");
    private static final Pattern NEEDED = Pattern.compile(".*// (?:Field|class) \"?\\[*L?(java[\\w/]+).*");

    /** Rule 4, and what rule 6 throws. */
    private static final String[] LIBRARY = {
        "java/lang/Object\\.<init>:\\(\\)V",
        "java/lang/StringBuilder\\.(<init>:\\(\\)V|append:\\((C|I|Ljava/lang/String;)\\).*"
            + "|(charAt|setCharAt|setLength|deleteCharAt|reverse|length|toString):.*)",
        "java/lang/String\\.((length|charAt|isEmpty|substring|toCharArray):.*|equals:.*|indexOf:\\(I\\)I"
            + "|<init>:\\(\\[C\\)V)",
        "java/lang/(Integer|Long|Math)\\.(?!\\w*Exact:)\\w+:\\([IJ]*\\)[IJ]",
        "java/lang/System\\.arraycopy:.*",
        "java/util/Arrays\\.(copyOf|copyOfRange|fill):.*",
        "java/lang/(IllegalState|IllegalArgument|IndexOutOfBounds|Arithmetic|UnsupportedOperation|Runtime)"
            + "Exception\\.<init>:\\((Ljava/lang/String;)?\\)V",
        "java/util/NoSuchElementException\\.<init>:\\((Ljava/lang/String;)?\\)V",
        "java/util/(ArrayList|List)\\.(<init>|add|get|set|remove|size|isEmpty|clear|of):.*"};

    /** What each method calls, by their classes and names; those of one name count as one. */
    private final Map<String, Set<String>> calls = new LinkedHashMap<>();
    private final Set<String> library = new TreeSet<>();
    private final Set<String> needed = new TreeSet<>();
    private String face = "";
    private String method = "";

    public static void main(String[] args) throws Exception {
        ToolProvider javap = ToolProvider.findFirst("javap").orElse(null);
        if (javap == null) {
            System.out.println("this Java has no javap: the compiled program is not looked at");
            return;
        }
        CompiledTest test = new CompiledTest();
        for (String line : told(javap).split("\n")) {
            test.read(line);
        }
        test.dueLibrary();
        test.dueDepths();
        Check.end();
    }

    private static String told(ToolProvider javap) throws Exception {
        File folder = Path.of(Orderlattice.class.getProtectionDomain().getCodeSource().getLocation().toURI()).toFile();
        List<String> words = new ArrayList<>(Arrays.asList("-p", "-c"));
        for (File file : folder.listFiles()) {
            if (file.getName().matches("Orderlattice(\\$.*)?\\.class")) {
                words.add(file.getPath());
            }
        }
        StringWriter told = new StringWriter();
        PrintWriter out = new PrintWriter(told, true);
        Check.due("javap ends well", javap.run(out, out, words.toArray(new String[0])), 0);
        return told.toString();
    }

    private void read(String line) {
        Matcher found = CLASS.matcher(line);
        if (found.matches()) {
            face = found.group(1);
            return;
        }
        found = METHOD.matcher(line);
        if (found.matches()) {
            method = face + "." + found.group(1).replace(face, "<init>");
            calls.computeIfAbsent(method, key -> new LinkedHashSet<>());
            return;
        }
        // A lambda, texts joined by +, and a switch with patterns are compiled to this.
        Check.due("barred in " + method + ": " + line, line.contains("invokedynamic"), false);
        found = NEEDED.matcher(line);
        if (found.matches()) {
            needed.add(found.group(1));
        }
        found = INVOKE.matcher(line);
        if (found.matches()) {
            String owner = found.group(1) == null ? face : found.group(1).replace("\"", "");
            if (owner.startsWith("Orderlattice")) {
                calls.get(method).add(owner + "." + found.group(2));
            } else {
                library.add(owner + "." + found.group(2) + ":" + found.group(3));
            }
        }
    }

    private void dueLibrary() {
        Check.due("calls of the library were found", library.size() > 5, true);
        for (String call : library) {
            Check.due("in the library of rule 4: " + call, Arrays.stream(LIBRARY).anyMatch(call::matches), true);
        }
        for (String name : needed) {
            Check.due("a class that rules 3, 4 and 6 know: " + name, name.matches("java/lang/(StringBuilder|String"
                    + "|Integer|(IllegalState|IllegalArgument|IndexOutOfBounds|Arithmetic|UnsupportedOperation|Runtime)"
                    + "Exception)|java/util/(NoSuchElementException|ArrayList|List)"), true);
        }
    }

    private void dueDepths() {
        Check.due("methods were found", calls.size() > 100, true);
        dueDepth("<init>");
        for (Method call : Orderlattice.class.getDeclaredMethods()) {
            if (Modifier.isPublic(call.getModifiers())) {
                dueDepth(call.getName());
            }
        }
    }

    private void dueDepth(String call) {
        String name = "Orderlattice." + call;
        Check.due("compiled is " + name, calls.containsKey(name), true);
        int depth = depth(name, new ArrayList<>());
        Check.due(name + " goes " + depth + " deep, no deeper than the rule allows", depth <= DEEPEST, true);
    }

    /** How many methods stand open at once, this one with them; the program has no recursion. */
    private int depth(String name, List<String> open) {
        if (open.contains(name)) {
            Check.due("recursion by way of " + open, name, null);
            return 0;
        }
        open.add(name);
        int deepest = 0;
        for (String called : calls.getOrDefault(name, Set.of())) {
            deepest = Math.max(deepest, depth(called, open));
        }
        open.remove(open.size() - 1);
        return deepest + 1;
    }
}
