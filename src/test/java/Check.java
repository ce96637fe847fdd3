import java.util.Objects;

/** Counts and prints the answers that are not the ones that are due. */
final class Check {
    interface Call {
        Object answer();
    }

    private static final int ROWS = 3;
    private static final int ORDERS = 4;
    private static final int VALUES = 16;
    private static final int COUNTS = 5;
    private static final int REFUSALS = 3;

    private static int asked = 0;
    private static int wrong = 0;

    private Check() {
    }

    static void due(String what, Object got, Object want) {
        asked++;
        if (!Objects.equals(got, want)) {
            wrong++;
            System.out.println(what + " answered " + got + ", due is " + want);
        }
    }

    /** The call throws just this exception, and changes nothing, house() and digest() neither. */
    static void dueThrow(Orderlattice x, String what, Class<?> want, Call call) {
        String before = whole(x);
        due(what, outcome(call), want);
        due(what + " changes nothing", whole(x), before);
    }

    static void dueIndex(Orderlattice x, String what, Call call) {
        dueThrow(x, what + " throws", IndexOutOfBoundsException.class, call);
    }

    static void dueArgument(Orderlattice x, String what, Call call) {
        dueThrow(x, what + " throws", IllegalArgumentException.class, call);
    }

    /** The call answers REFUSED, counts that, and changes nothing else. */
    static void dueRefused(Orderlattice x, String what, Call call) {
        String before = state(x);
        int refusals = x.house(REFUSALS);
        long digest = x.digest();
        due(what + " is refused", outcome(call), -9);
        due(what + " counts", x.house(REFUSALS), refusals + 1);
        due(what + " changes nothing else", state(x), before);
        due(what + " changes the digest by that alone", x.digest(), digest + weightOfRefusals(x));
    }

    /** The call answers this, and changes nothing: nothing is counted either. */
    static void dueStays(Orderlattice x, String what, Object want, Call call) {
        String before = whole(x);
        due(what, outcome(call), want);
        due(what + " changes nothing", whole(x), before);
    }

    /** What the call answers, or the class of what it throws. */
    static Object outcome(Call call) {
        try {
            return call.answer();
        } catch (RuntimeException e) {
            return e.getClass();
        }
    }

    /** All that can be asked of an object's state but how often it refused. */
    static String state(Orderlattice x) {
        StringBuilder told = new StringBuilder();
        for (int row = 0; row < ROWS; row++) {
            told.append(x.text(row)).append('|');
        }
        for (int order = 0; order < ORDERS; order++) {
            told.append(x.orderText(order)).append('|');
        }
        for (int what = 0; what < COUNTS; what++) {
            told.append(what == REFUSALS ? "" : x.house(what) + " ");
        }
        return told.toString();
    }

    private static String whole(Orderlattice x) {
        return state(x) + x.house(REFUSALS) + " " + x.digest();
    }

    /** By how much the digest grows with one refusal more: 31 for each number that comes behind that count. */
    private static long weightOfRefusals(Orderlattice x) {
        int ofRows = ROWS + 2 * x.house(0);
        int ofOrders = ORDERS * (1 + 1 + VALUES) + 2 * x.house(1);
        int behind = 1 + ofRows + ofOrders + 2 * ORDERS * ORDERS + 2 * ROWS * ORDERS + 1;
        long weight = 1;
        for (int i = 0; i < behind; i++) {
            weight *= 31;
        }
        return weight;
    }

    static void end() {
        System.out.println(asked + " answers, " + wrong + " not as due");
        if (wrong != 0) {
            System.exit(1);
        }
    }
}
