import java.util.Objects;

/** Counts and prints the answers that are not the ones that are due. */
final class Check {
    interface Call {
        Object answer();
    }

    private static int asked = 0;
    private static int wrong = 0;

    private Check() {
    }

    static void due(String what, Object got, Object want) {
        asked++;
        if (!Objects.equals(got, want)) {
            wrong++;
            System.out.println(what + " answered " + got + ", due is " + want);
        }
    }

    /** The call throws just this exception, and changes nothing. */
    static void dueThrow(Orderlattice x, String what, Class<?> want, Call call) {
        long before = x.digest();
        Object got = outcome(call);
        due(what, got, want);
        due(what + " changes nothing", x.digest(), before);
    }

    static void dueIndex(Orderlattice x, String what, Call call) {
        dueThrow(x, what + " throws", IndexOutOfBoundsException.class, call);
    }

    static void dueArgument(Orderlattice x, String what, Call call) {
        dueThrow(x, what + " throws", IllegalArgumentException.class, call);
    }

    /** The call answers REFUSED, counts that, and changes nothing else. */
    static void dueRefused(Orderlattice x, String what, Call call) {
        String before = state(x);
        int refusals = x.house(3);
        due(what, outcome(call), -9);
        due(what + " counts", x.house(3), refusals + 1);
        due(what + " changes nothing else", state(x), before);
    }

    /** What the call answers, or the class of what it throws. */
    static Object outcome(Call call) {
        try {
            return call.answer();
        } catch (RuntimeException e) {
            return e.getClass();
        }
    }

    /** All that can be asked of an object but how often it refused. */
    static String state(Orderlattice x) {
        StringBuilder told = new StringBuilder();
        for (int row = 0; row < 3; row++) {
            told.append(x.text(row)).append('|');
        }
        for (int order = 0; order < 4; order++) {
            told.append(x.orderText(order)).append('|');
        }
        return told.append(x.house(2)).append('|').append(x.house(4)).toString();
    }

    static void end() {
        System.out.println(asked + " answers, " + wrong + " not as due");
        if (wrong != 0) {
            System.exit(1);
        }
    }
}
