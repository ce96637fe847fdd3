import java.util.HashMap;
import java.util.Map;
import java.util.TreeSet;

/**
 * Each call of the face with each bound of each of its arguments, the numbers on both sides of it, and the least and
 * greatest int, all of them with one another, in objects that are new, in use, one short of full, and full: the answer
 * or the exception, and the digest behind it, are those of the second reading of the document.
 */
public final class BoundsTest {
    private static final String[] CHANGES = {
        "put row value", "putAt row place value", "fill row many number number", "drop row place", "clear row",
        "copyRow row row", "turnRow row", "wheel row any", "swap row place place", "sort row order way",
        "sortPart row order place place", "step order key flag", "unstep order", "wipe order",
        "copyOrder order order", "turn order", "product order order order", "tellApart order value value", "knock"};
    private static final String[] QUESTIONS = {
        "isSorted row order", "size row", "valueAt row place", "markAt row place", "text row",
        "extreme row order flag", "search row order value", "near row order value how", "kinds row order",
        "ahead row order value", "groups row order", "ranks row order flag", "orderText order",
        "compare order value value", "both order order value value", "refines order order", "areSame order order",
        "apart order order", "classes order", "rank order value", "keyOf key value", "house what", "isSound", "digest"};

    private static final String[] IN_USE = {
        "step 0 1 0", "step 0 3 1", "step 2 6 0", "step 2 7 1", "step 2 2 1", "step 2 4 0", "step 3 0 1",
        "fill 0 6 9 11", "fill 2 7 3 5", "drop 0 1", "unstep 1", "knock", "knock"};
    private static final String[] ONE_SHORT = {
        "fill 0 11 2 1", "fill 1 11 15 13", "fill 2 11 4 0", "sort 0 3 0", "knock",
        "step 0 7 0", "step 0 7 1", "step 0 7 0", "step 0 3 1", "step 1 3 0", "step 1 4 1", "step 1 3 1", "step 1 7 0",
        "step 2 1 0", "step 2 6 1", "step 3 0 1", "step 3 1 0", "step 3 2 0", "step 3 3 0"};
    private static final String[] FULL = {
        "fill 0 12 2 2", "fill 1 12 5 7", "fill 2 12 99 99", "put 0 0",
        "step 0 7 1", "step 0 7 0", "step 0 3 0", "step 0 3 1", "step 0 7 1",
        "step 1 1 0", "step 1 2 1", "step 1 0 0", "step 1 5 1", "step 1 6 0",
        "step 2 4 1", "step 2 4 1", "step 2 4 1", "step 2 4 1", "step 2 4 1",
        "step 3 0 1", "step 3 1 1", "step 3 2 1", "step 3 3 1", "step 3 4 1"};

    private static final int REFUSED = -9;
    private static final int MOST_CALLS = 512;
    private static final int CALLS_TO_ASK = 3;

    private static final Map<String, int[]> BOUNDS = new HashMap<>();

    public static void main(String[] args) throws Exception {
        BOUNDS.put("row", around(0, 2));
        BOUNDS.put("order", around(0, 3));
        BOUNDS.put("value", around(0, 7, 8, 15));
        BOUNDS.put("key", around(0, 2, 5, 7));
        BOUNDS.put("way", around(0, 2));
        BOUNDS.put("how", around(0, 3));
        BOUNDS.put("what", around(0, 2, 4));
        BOUNDS.put("many", around(0, 5, 12));
        BOUNDS.put("number", around(0, 15, 99));
        BOUNDS.put("place", around(0, 5, 11));
        BOUNDS.put("any", around(-12, -5, 0, 5, 12, 100));
        BOUNDS.put("flag", new int[] {0, 1});
        ask("a new object", new String[0]);
        ask("one in use", IN_USE);
        ask("one short of full", ONE_SHORT);
        ask("a full one", FULL);
        Check.end();
    }

    /** These numbers, those on both sides of them, and the least and the greatest of all. */
    private static int[] around(int... numbers) {
        TreeSet<Integer> all = new TreeSet<>();
        for (int number : numbers) {
            all.add(number - 1);
            all.add(number);
            all.add(number + 1);
        }
        all.add(Integer.MIN_VALUE);
        all.add(Integer.MAX_VALUE);
        return all.stream().mapToInt(number -> number).toArray();
    }

    private final String state;
    private final String[] calls;
    private final long digest;
    private final int refusals;
    private Orderlattice x;
    private Model m;
    private int callsLeft;

    private BoundsTest(String state, String[] calls) throws Exception {
        this.state = state;
        this.calls = calls;
        begin();
        refusals = m.house(3);
        digest = m.digest();
        Check.due(state + ": digest", x.digest(), digest);
    }

    private static void ask(String state, String[] calls) throws Exception {
        BoundsTest test = new BoundsTest(state, calls);
        for (String call : CHANGES) {
            test.askAll(call.split(" "), true);
        }
        for (String call : QUESTIONS) {
            test.askAll(call.split(" "), false);
        }
    }

    /** A new object in this state. */
    private void begin() throws Exception {
        x = new Orderlattice();
        m = new Model();
        Calls.makeAll(x, calls);
        Calls.makeAll(m, calls);
        callsLeft = MOST_CALLS - calls.length - 1;
    }

    private void askAll(String[] words, boolean isChanging) throws Exception {
        askFrom(words, isChanging, new int[words.length - 1], 0);
        dueUnchanged(words[0]);
    }

    private void askFrom(String[] words, boolean isChanging, int[] numbers, int next) throws Exception {
        if (next == numbers.length) {
            askOne(words, isChanging, numbers);
            return;
        }
        for (int number : BOUNDS.get(words[next + 1])) {
            numbers[next] = number;
            askFrom(words, isChanging, numbers, next + 1);
        }
    }

    private void askOne(String[] words, boolean isChanging, int[] numbers) throws Exception {
        if (callsLeft < CALLS_TO_ASK) {
            dueUnchanged(words[0]);
        }
        callsLeft -= CALLS_TO_ASK;
        Object want = Calls.answer(m, words[0], numbers);
        Object got = Calls.answer(x, words[0], numbers);
        // Put together only where it is told, since these are many.
        if (!want.equals(got)) {
            Check.due(told(words, numbers), got, want);
        }
        boolean isThrown = want instanceof Class;
        Check.due("how often REFUSED was told", x.house(3), want.equals(REFUSED) ? refusals + 1 : refusals);
        if (want.equals(REFUSED) || isChanging && !isThrown) {
            Check.due(told(words, numbers) + ", then digest", x.digest(), m.digest());
            begin();
        }
    }

    /** Looked at behind a lot of calls that throw or only ask, since it takes long. */
    private void dueUnchanged(String name) throws Exception {
        Check.due(state + ", after calls of " + name + " that change nothing: digest", x.digest(), digest);
        begin();
    }

    private String told(String[] words, int[] numbers) {
        StringBuilder told = new StringBuilder(state).append(": ").append(words[0]);
        for (int number : numbers) {
            told.append(' ').append(number);
        }
        return told.toString();
    }
}
