import java.io.IOException;
import java.net.URL;
import java.net.URLClassLoader;
import java.nio.file.Files;
import java.nio.file.Path;
import java.util.Comparator;
import java.util.List;
import java.util.stream.Collectors;
import java.util.stream.Stream;
import javax.tools.JavaCompiler;
import javax.tools.ToolProvider;

/**
 * Promise 43: isSound() of the program is true, and of a program with one fault put in it false.
 * A fault whose words are no longer in the program is told as an answer that is not as due; but a program without an
 * Auditor is another one than this table was made for, and is only asked itself.
 */
public final class SoundnessTest {
    private static final String[][] FAULTS = {
        {"merging turns alike ones", "order.compared(row.valueOn(right), row.valueOn(left)) < 0",
            "order.compared(row.valueOn(right), row.valueOn(left)) <= 0"},
        {"gathering goes from the last rank", "order.rankOf(row.valueOn(place)) == rank",
            "order.rankOf(row.valueOn(place)) == order.classCount() - 1 - rank"},
        {"inserting sorts the other way round", "order.compared(row.valueOn(at), row.valueOn(at - 1)) < 0",
            "order.compared(row.valueOn(at), row.valueOn(at - 1)) > 0"},
        {"none is alike", "code > otherCode ? 1 : 0", "code > otherCode ? 1 : -1"},
        {"too many classes", "classes++;", "classes += 2;"},
        {"no order is turned", "downs[at] = !downs[at];", "downs[at] = downs[at];"},
        {"a product of the second one alone", "addSteps(one, one.length());", ""},
        {"a product of the first one alone", "addSteps(other, other.length());", ""},
        {"the queue tells the last one first", "order.compared(valueOn(place), valueOn(best)) < 0",
            "order.compared(valueOn(place), valueOn(best)) > 0"},
        {"too many refine", "compared(one, two) >= 0", "compared(one, two) > 0"},
        {"too few refine", "other.compared(one, two) < 0 && compared", "other.compared(one, two) <= 0 && compared"},
        {"all is in sequence", "order.compared(valueOn(place), valueOn(place - 1)) < 0",
            "order.compared(valueOn(place), valueOn(place - 1)) < -1"},
        {"a row is not turned", "while (low < high)", "while (low < high - 2)"}};
    // These show only where a law is looked at that no other one stands in for.
    private static final String[] SIGN = {"a value is behind itself", "code > otherCode ? 1 : 0",
        "code > otherCode || one == other ? 1 : 0"};
    private static final String[] MERGING = {"merging sorts the other way round",
        "order.compared(row.valueOn(right), row.valueOn(left)) < 0",
        "order.compared(row.valueOn(right), row.valueOn(left)) > 0"};
    private static final String[] PRODUCT = {"a product of the second one alone", "addSteps(one, one.length());", ""};
    private static final String[] HALF = {"a product of the first one alone", "addSteps(other, other.length());", ""};
    private static final String[] NEIGHBOURS = {"alike neighbours are not in sequence",
        "order.compared(valueOn(place), valueOn(place - 1)) < 0",
        "order.compared(valueOn(place), valueOn(place - 1)) <= 0"};

    /** Three rows and four orders, of which some refine others. */
    private static final String[] IN_USE = {"fill 0 12 3 7", "fill 1 6 9 9", "fill 2 3 0 4", "step 0 1 0", "step 1 0 1",
        "step 2 4 1", "step 2 1 0", "step 3 4 1"};

    public static void main(String[] args) throws Exception {
        String source = Files.readString(Path.of("src/main/java/Orderlattice.java"));
        Class<?> program = compiled(source);
        Check.due("43: isSound of the program", Calls.answer(made(program, IN_USE), "isSound"), true);
        if (source.contains("class Auditor")) {
            for (String[] fault : FAULTS) {
                dueUnsound(fault[0], faulty(source, fault), IN_USE);
            }
            eachTwoValues(source, program);
            eachRowAndEachOrder(source);
            eachTwoOrdersWithoutRows(source);
            eachRowByTheProduct(source);
            sortedIsInSequence(source);
        }
        Check.end();
    }

    /** "each two VALUES are compared one way and the other way so that the signs are turned"; "1 if isSound()" */
    private static void eachTwoValues(String source, Class<?> program) throws Exception {
        Class<?> face = faulty(source, SIGN);
        dueUnsound(SIGN[0], face);
        long due = (long) Calls.answer(made(program), "digest");
        Check.due("44: digest with this: " + SIGN[0], Calls.answer(made(face), "digest"), due - 1);
    }

    /** "of each ROW and each ORDER": one alone that has things, one alone that has steps. */
    private static void eachRowAndEachOrder(String source) throws Exception {
        Class<?> face = faulty(source, MERGING);
        for (int row = 0; row <= 2; row++) {
            Check.due("43: without steps, row " + row,
                    Calls.answer(made(face, "fill " + row + " 3 0 5"), "isSound"), true);
            for (int order = 0; order <= 3; order++) {
                dueUnsound(MERGING[0] + ", row " + row + ", order " + order, face, "fill " + row + " 3 0 5",
                        "step " + order + " 0 0");
            }
        }
    }

    /** "of each two ORDERS: .. their PRODUCT .. REFINES the first one" */
    private static void eachTwoOrdersWithoutRows(String source) throws Exception {
        Class<?> face = faulty(source, PRODUCT);
        Check.due("43: without steps", Calls.answer(made(face), "isSound"), true);
        for (int order = 0; order <= 3; order++) {
            dueUnsound(PRODUCT[0] + ", without rows, order " + order, face, "step " + order + " 3 0");
        }
    }

    /** "SORTED by the one, then by the other one, it is as SORTED by the PRODUCT .. of the other one and the one" */
    private static void eachRowByTheProduct(String source) throws Exception {
        Class<?> face = faulty(source, HALF);
        Check.due("43: without rows", Calls.answer(made(face, "step 0 1 0", "step 1 3 1"), "isSound"), true);
        for (int row = 0; row <= 2; row++) {
            dueUnsound(HALF[0] + ", row " + row, face, "step 0 1 0", "step 1 3 1", "fill " + row + " 5 0 3");
        }
    }

    /** "SORTED it is in sequence" */
    private static void sortedIsInSequence(String source) throws Exception {
        dueUnsound(NEIGHBOURS[0], faulty(source, NEIGHBOURS), "step 0 0 0", "step 1 0 0", "step 2 0 0", "step 3 0 0",
                "put 1 5", "put 1 5");
    }

    private static void dueUnsound(String what, Class<?> face, String... calls) throws Exception {
        Check.due("43: isSound with this: " + what, Calls.answer(made(face, calls), "isSound"), false);
    }

    private static Object made(Class<?> face, String... calls) throws Exception {
        Object x = face.getConstructor().newInstance();
        Calls.makeAll(x, calls);
        return x;
    }

    private static Class<?> faulty(String source, String[] fault) throws Exception {
        Check.due("43: the words are there: " + fault[1], source.contains(fault[1]), true);
        return compiled(source.replace(fault[1], fault[2]));
    }

    private static Class<?> compiled(String source) throws Exception {
        Path room = Files.createTempDirectory("soundness");
        try {
            Path file = Files.writeString(room.resolve("Orderlattice.java"), source);
            JavaCompiler compiler = ToolProvider.getSystemJavaCompiler();
            if (compiler.run(null, null, null, "-d", room.toString(), file.toString()) != 0) {
                throw new IllegalStateException("a program with a fault put in does not compile");
            }
            // Without a parent, so that not this test's own class is found.
            try (URLClassLoader loader = new URLClassLoader(new URL[] {room.toUri().toURL()}, null)) {
                Class<?> face = loader.loadClass("Orderlattice");
                // Its inner classes are looked for when they are first used, and that must be while they are there.
                Calls.answer(made(face, IN_USE), "isSound");
                return face;
            }
        } finally {
            remove(room);
        }
    }

    private static void remove(Path room) throws IOException {
        try (Stream<Path> all = Files.walk(room)) {
            List<Path> paths = all.sorted(Comparator.reverseOrder()).collect(Collectors.toList());
            for (Path path : paths) {
                Files.delete(path);
            }
        }
    }
}
