import java.lang.reflect.Constructor;
import java.lang.reflect.Field;
import java.lang.reflect.Method;
import java.lang.reflect.Modifier;
import java.util.Arrays;
import java.util.TreeSet;

/** The public face, member by member, and nothing beside it. */
public final class FaceTest {
    private static final String INDEX = " IndexOutOfBoundsException";
    private static final String ARGUMENT = " IllegalArgumentException";
    private static final String BOTH = INDEX + ARGUMENT;
    private static final String[] FACE = {
        "int put(int,int)" + BOTH,
        "int putAt(int,int,int)" + BOTH,
        "int fill(int,int,int,int)" + BOTH,
        "int drop(int,int)" + INDEX,
        "int clear(int)" + INDEX,
        "int copyRow(int,int)" + INDEX,
        "int turnRow(int)" + INDEX,
        "int wheel(int,int)" + INDEX,
        "int swap(int,int,int)" + INDEX,
        "int sort(int,int,int)" + BOTH,
        "int sortPart(int,int,int,int)" + BOTH,
        "boolean isSorted(int,int)" + INDEX,
        "int size(int)" + INDEX,
        "int valueAt(int,int)" + INDEX,
        "int markAt(int,int)" + INDEX,
        "String text(int)" + INDEX,
        "int extreme(int,int,boolean)" + INDEX,
        "int search(int,int,int)" + BOTH,
        "int near(int,int,int,int)" + BOTH,
        "int kinds(int,int)" + INDEX,
        "int ahead(int,int,int)" + BOTH,
        "String groups(int,int)" + INDEX,
        "String ranks(int,int,boolean)" + INDEX,
        "int step(int,int,boolean)" + BOTH,
        "int unstep(int)" + INDEX,
        "int wipe(int)" + INDEX,
        "int copyOrder(int,int)" + INDEX,
        "int turn(int)" + INDEX,
        "int product(int,int,int)" + INDEX,
        "int tellApart(int,int,int)" + BOTH,
        "String orderText(int)" + INDEX,
        "int compare(int,int,int)" + BOTH,
        "int both(int,int,int,int)" + BOTH,
        "boolean refines(int,int)" + INDEX,
        "boolean areSame(int,int)" + INDEX,
        "int apart(int,int)" + INDEX,
        "int classes(int)" + INDEX,
        "int rank(int,int)" + BOTH,
        "int keyOf(int,int)" + ARGUMENT,
        "int knock()",
        "int house(int)" + ARGUMENT,
        "boolean isSound()",
        "long digest()"};

    public static void main(String[] args) {
        TreeSet<String> got = new TreeSet<>();
        TreeSet<String> names = new TreeSet<>();
        for (Method method : Orderlattice.class.getDeclaredMethods()) {
            if (!Modifier.isPrivate(method.getModifiers())) {
                got.add(told(method));
                names.add(method.getName());
                Check.due(method + " is public and no more", method.getModifiers(), Modifier.PUBLIC);
            }
        }
        Check.due("the face", got, new TreeSet<>(Arrays.asList(FACE)));
        for (Method method : Orderlattice.class.getDeclaredMethods()) {
            Check.due(method + " bears no public name",
                    Modifier.isPrivate(method.getModifiers()) && names.contains(method.getName()), false);
        }
        for (Field field : Orderlattice.class.getDeclaredFields()) {
            int bits = field.getModifiers();
            Check.due(field + " is private", Modifier.isPrivate(bits), true);
            Check.due(field + " is no static state", Modifier.isStatic(bits) && !Modifier.isFinal(bits), false);
        }
        Constructor<?>[] all = Orderlattice.class.getDeclaredConstructors();
        Check.due("one constructor", all.length, 1);
        Check.due("a public constructor without parameters",
                all[0].getModifiers() == Modifier.PUBLIC && all[0].getParameterCount() == 0, true);
        Check.due("a public final class", Orderlattice.class.getModifiers(), Modifier.PUBLIC | Modifier.FINAL);
        Check.end();
    }

    private static String told(Method method) {
        StringBuilder told = new StringBuilder(method.getReturnType().getSimpleName());
        told.append(' ').append(method.getName()).append('(');
        for (Class<?> type : method.getParameterTypes()) {
            told.append(told.charAt(told.length() - 1) == '(' ? "" : ",").append(type.getSimpleName());
        }
        told.append(')');
        for (Class<?> type : method.getExceptionTypes()) {
            told.append(' ').append(type.getSimpleName());
        }
        return told.toString();
    }
}
