import java.io.IOException;
import java.lang.reflect.Method;
import java.net.URL;
import java.net.URLClassLoader;
import java.nio.file.Files;
import java.nio.file.Path;
import java.util.Comparator;
import java.util.List;
import java.util.stream.Collectors;
import java.util.stream.Stream;
import javax.tools.JavaCompiler;
import javax.tools.ToolProvider;

/**
 * Promise 43: isSound() of the program is true, and of a program with one fault put in it false.
 * A fault whose words are no longer in the program is told as an answer that is not as due.
 */
public final class SoundnessTest {
    private static final String[][] FAULTS = {
        {"no fault", "", ""},
        {"merging turns alike ones", "order.compared(row.valueOn(right), row.valueOn(left)) < 0",
            "order.compared(row.valueOn(right), row.valueOn(left)) <= 0"},
        {"gathering goes from the last rank", "order.rankOf(row.valueOn(place)) == rank",
            "order.rankOf(row.valueOn(place)) == order.classCount() - 1 - rank"},
        {"inserting sorts the other way round", "order.compared(row.valueOn(at), row.valueOn(at - 1)) < 0",
            "order.compared(row.valueOn(at), row.valueOn(at - 1)) > 0"},
        {"none is alike", "code > otherCode ? 1 : 0", "code > otherCode ? 1 : -1"},
        {"too many classes", "classes++;", "classes += 2;"},
        {"no order is turned", "downs[at] = !downs[at];", "downs[at] = downs[at];"},
        {"a product of the wrong one first", "addSteps(one, one.length());", ""},
        {"the queue tells the last one first", "order.compared(valueOn(place), valueOn(best)) < 0",
            "order.compared(valueOn(place), valueOn(best)) > 0"},
        {"too many refine", "compared(one, two) >= 0", "compared(one, two) > 0"},
        {"too few refine", "other.compared(one, two) < 0 && compared", "other.compared(one, two) <= 0 && compared"},
        {"all is in sequence", "order.compared(valueOn(place), valueOn(place - 1)) < 0",
            "order.compared(valueOn(place), valueOn(place - 1)) < -1"},
        {"a row is not turned", "while (low < high)", "while (low < high - 2)"}};

    public static void main(String[] args) throws Exception {
        String source = Files.readString(Path.of("src/main/java/Orderlattice.java"));
        for (String[] fault : FAULTS) {
            Check.due("43: the words are there: " + fault[1], source.contains(fault[1]), true);
            boolean isWhole = fault[1].isEmpty();
            String made = isWhole ? source : source.replace(fault[1], fault[2]);
            Check.due("43: isSound with this: " + fault[0], soundnessOf(made), isWhole);
        }
        Check.end();
    }

    private static Object soundnessOf(String source) throws Exception {
        Path room = Files.createTempDirectory("soundness");
        try {
            Path file = Files.writeString(room.resolve("Orderlattice.java"), source);
            JavaCompiler compiler = ToolProvider.getSystemJavaCompiler();
            if (compiler.run(null, null, null, "-d", room.toString(), file.toString()) != 0) {
                return "does not compile";
            }
            // Without a parent, so that not this test's own class is found.
            try (URLClassLoader loader = new URLClassLoader(new URL[] {room.toUri().toURL()}, null)) {
                return used(loader.loadClass("Orderlattice"));
            }
        } finally {
            remove(room);
        }
    }

    /** Three rows and four orders, of which some refine others, then isSound(). */
    private static Object used(Class<?> face) throws Exception {
        Object x = face.getConstructor().newInstance();
        call(face, x, "fill", 0, 12, 3, 7);
        call(face, x, "fill", 1, 6, 9, 9);
        call(face, x, "fill", 2, 3, 0, 4);
        step(face, x, 0, 1, false);
        step(face, x, 1, 0, true);
        step(face, x, 2, 4, true);
        step(face, x, 2, 1, false);
        step(face, x, 3, 4, true);
        Method isSound = face.getMethod("isSound");
        return isSound.invoke(x);
    }

    private static void call(Class<?> face, Object x, String name, int row, int many, int from, int by)
            throws Exception {
        face.getMethod(name, int.class, int.class, int.class, int.class).invoke(x, row, many, from, by);
    }

    private static void step(Class<?> face, Object x, int order, int key, boolean isDown) throws Exception {
        face.getMethod("step", int.class, int.class, boolean.class).invoke(x, order, key, isDown);
    }

    private static void remove(Path room) throws IOException {
        try (Stream<Path> all = Files.walk(room)) {
            List<Path> paths = all.sorted(Comparator.reverseOrder()).collect(Collectors.toList());
            for (Path path : paths) {
                Files.delete(path);
            }
        }
    }
}
