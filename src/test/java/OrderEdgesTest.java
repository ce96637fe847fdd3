/** The sentences of promises 25 to 31 that name a boundary case, each with a test of its own. */
public final class OrderEdgesTest {
    private static final int LEAST = Integer.MIN_VALUE;
    private static final int GREATEST = Integer.MAX_VALUE;
    private static final int[] NO_ORDERS = {LEAST, -1, 4, GREATEST};
    private static final int[] NO_VALUES = {LEAST, -1, 16, GREATEST};
    private static final String[] LONGER = {"", "4-", "4- 1+", "4- 1+ 7-", "4- 1+ 7- 6+", "4- 1+ 7- 6+ 2-"};

    public static void main(String[] args) {
        stepIsRefusedIfThereAreFive();
        stepTakesEachKeyAndNoOther();
        stepOfTheSameKey();
        stepThrowsAheadOfRefused();
        unstepOfEachLength();
        wipeOfEachLength();
        copyOrderOntoItself();
        copyOrderOfEachLength();
        turnOfEachLength();
        turnOfStepsOneWay();
        productOfEachLength();
        productIntoOneOfBoth();
        productOfOneWithItself();
        productWithoutSteps();
        productThrowsAheadOfRefused();
        tellApartOfOneAndTheSame();
        tellApartOfUnlikeOnes();
        tellApartIsRefusedIfThereAreFive();
        tellApartOfSeveralTakesTheSmallestKey();
        tellApartOfEachTwoValues();
        tellApartTakesEachValueAndNoOther();
        noSuchOrder();
        Check.end();
    }

    // ---- 25: step

    /** "REFUSED if it has 5 STEPS" */
    private static void stepIsRefusedIfThereAreFive() {
        for (int order = 0; order <= 3; order++) {
            int of = order;
            Orderlattice x = new Orderlattice();
            for (int many = 1; many <= 5; many++) {
                Check.due("25: step " + many + " of order " + order, x.step(order, 3, many % 2 == 0), 2);
            }
            Check.due("25: all five", x.orderText(order), "3+ 3- 3+ 3- 3+");
            Check.dueRefused(x, "25: a sixth to order " + order, () -> x.step(of, 0, false));
            Check.dueRefused(x, "25: a sixth, DOWN, to order " + order, () -> x.step(of, 7, true));
            Check.due("25: the other order is not full", x.step((order + 1) % 4, 0, true), 16);
            Check.due("25: one goes", x.unstep(order), 3);
            Check.due("25: the fifth again", x.step(order, 0, true), 16);
            Check.dueRefused(x, "25: a sixth again to order " + order, () -> x.step(of, 1, false));
        }
    }

    /** "if key is not 0 to 7" */
    private static void stepTakesEachKeyAndNoOther() {
        int[] classes = {16, 4, 4, 2, 3, 8, 5, 1};
        for (int key = 0; key <= 7; key++) {
            Orderlattice x = new Orderlattice();
            Check.due("25: classes by key " + key + ", UP", x.step(0, key, false), classes[key]);
            Check.due("25: classes by key " + key + ", DOWN", x.step(1, key, true), classes[key]);
            Check.due("25: the steps of key " + key, x.orderText(0) + x.orderText(1), key + "+" + key + "-");
        }
        Orderlattice x = Made.inUse();
        for (int key : new int[] {LEAST, -1, 8, GREATEST}) {
            Check.dueArgument(x, "25: key " + key, () -> x.step(0, key, false));
        }
    }

    /** "the same KEY may stand several times": the first one decides. */
    private static void stepOfTheSameKey() {
        Orderlattice x = Made.withOrders("0+ 0- 0- 0- 0-");
        Check.due("25: the steps", x.orderText(0), "0+ 0- 0- 0- 0-");
        Check.due("25: the first one decides", x.compare(0, 0, 15), -1);
        Check.due("25: its rank", x.rank(0, 15), 15);
    }

    private static void stepThrowsAheadOfRefused() {
        Orderlattice x = Made.full();
        Check.dueArgument(x, "25: key 8 to five steps", () -> x.step(0, 8, false));
        Check.dueArgument(x, "25: key -1 to five steps", () -> x.step(0, -1, true));
        Check.dueIndex(x, "25: order 4 of a full one, key 8", () -> x.step(4, 8, false));
        Check.dueIndex(x, "25: order -1 of a full one, key -1", () -> x.step(-1, -1, false));
    }

    // ---- 26: unstep, 27: wipe

    /** "REFUSED if there is none" */
    private static void unstepOfEachLength() {
        int[] keys = {4, 1, 7, 6, 2};
        Orderlattice x = Made.withOrders(LONGER[5], LONGER[5]);
        for (int many = 5; many >= 1; many--) {
            Check.due("26: the key of step " + many, x.unstep(0), keys[many - 1]);
            Check.due("26: those that are left", x.orderText(0), LONGER[many - 1]);
            Check.due("26: their classes", x.classes(0), Made.withOrders(LONGER[many - 1]).classes(0));
        }
        Check.dueRefused(x, "26: none", () -> x.unstep(0));
        Check.dueRefused(x, "26: none once more", () -> x.unstep(0));
        Check.due("26: the other order stays", x.orderText(1), LONGER[5]);
        Check.due("26: a step behind that", x.step(0, 3, true), 2);
        Check.due("26: that one", x.unstep(0), 3);
    }

    private static void wipeOfEachLength() {
        for (int many = 0; many <= 5; many++) {
            Orderlattice x = Made.withOrders(LONGER[5], LONGER[many]);
            Check.due("27: of " + many, x.wipe(1), many);
            Check.due("27: none is left of " + many, x.orderText(1), "");
            Check.due("27: all are alike behind " + many, x.classes(1), 1);
            Check.due("27: the other order stays", x.orderText(0), LONGER[5]);
            Check.dueStays(x, "27: of none", 0, () -> x.wipe(1));
        }
    }

    // ---- 28: copyOrder

    /** "the ORDER, or the same" */
    private static void copyOrderOntoItself() {
        Orderlattice x = Made.full();
        x.wipe(1);
        Check.dueStays(x, "28: five steps onto themselves", 5, () -> x.copyOrder(3, 3));
        Check.dueStays(x, "28: none onto themselves", 0, () -> x.copyOrder(1, 1));
    }

    /** "An ORDER becomes as another one is." */
    private static void copyOrderOfEachLength() {
        for (int from = 0; from <= 5; from++) {
            for (int into = 0; into <= 5; into++) {
                Orderlattice x = Made.withOrders(LONGER[from], LONGER[into]);
                String of = " of " + from + " onto " + into;
                Check.due("28: how many" + of, x.copyOrder(0, 1), from);
                Check.due("28: the steps" + of, x.orderText(1), LONGER[from]);
                Check.due("28: compared alike" + of, x.areSame(0, 1), true);
                Check.due("28: as many classes" + of, x.classes(1), x.classes(0));
                x.turn(1);
                Check.due("28: the other one is its own" + of, x.orderText(0), LONGER[from]);
            }
        }
        Orderlattice x = Made.full();
        x.copyOrder(3, 0);
        Check.dueRefused(x, "28: the copy of five steps is full", () -> x.step(0, 0, false));
        Check.dueIndex(x, "28: both 4", () -> x.copyOrder(4, 4));
        Check.dueIndex(x, "28: both -1", () -> x.copyOrder(-1, -1));
    }

    // ---- 29: turn

    /** "Returns how many STEPS are DOWN then." */
    private static void turnOfEachLength() {
        int[] downThen = {0, 0, 1, 1, 2, 2};
        String[] turned = {"", "4+", "4+ 1-", "4+ 1- 7+", "4+ 1- 7+ 6-", "4+ 1- 7+ 6- 2+"};
        for (int many = 0; many <= 5; many++) {
            Orderlattice x = Made.withOrders(LONGER[many]);
            Check.due("29: DOWN then of " + many, x.turn(0), downThen[many]);
            Check.due("29: turned of " + many, x.orderText(0), turned[many]);
            Check.due("29: DOWN then of " + many + " turned back", x.turn(0), many - downThen[many]);
            Check.due("29: turned back of " + many, x.orderText(0), LONGER[many]);
        }
        Orderlattice x = new Orderlattice();
        Check.dueStays(x, "29: of none", 0, () -> x.turn(3));
    }

    private static void turnOfStepsOneWay() {
        Orderlattice x = Made.withOrders("0+ 0+ 0+ 0+ 0+", "7- 7- 7- 7- 7-");
        Check.due("29: five UP", x.turn(0), 5);
        Check.due("29: 15 is ahead then", x.compare(0, 15, 0), -1);
        Check.due("29: its rank then", x.rank(0, 15), 0);
        Check.due("29: five DOWN", x.turn(1), 0);
        Check.due("29: all are alike still", x.compare(1, 15, 0), 0);
    }

    // ---- 30: product

    /** "REFUSED if these are more than 5 STEPS" */
    private static void productOfEachLength() {
        for (int one = 0; one <= 5; one++) {
            for (int other = 0; other <= 5; other++) {
                Orderlattice x = Made.withOrders(LONGER[one], LONGER[other], "0- 0- 0- 0- 0-");
                String of = "30: of " + one + " and " + other;
                if (one + other > 5) {
                    Check.dueRefused(x, of, () -> x.product(0, 1, 2));
                    Check.dueRefused(x, of + " into the one", () -> x.product(0, 1, 0));
                } else {
                    String due = (LONGER[one] + " " + LONGER[other]).trim();
                    Check.due(of, x.product(0, 1, 2), Made.withOrders(due).classes(0));
                    Check.due(of + ", the steps", x.orderText(2), due);
                    Check.due(of + ", its classes", x.classes(2), Made.withOrders(due).classes(0));
                }
                Check.due(of + ", the one stays", x.orderText(0), LONGER[one]);
                Check.due(of + ", the other one stays", x.orderText(1), LONGER[other]);
            }
        }
    }

    /** "the ORDER (also one of both)" */
    private static void productIntoOneOfBoth() {
        for (int into = 0; into <= 1; into++) {
            Orderlattice x = Made.withOrders("4- 1+", "7- 6+ 2-");
            Check.due("30: into order " + into, x.product(0, 1, into), 16);
            Check.due("30: the steps of order " + into, x.orderText(into), "4- 1+ 7- 6+ 2-");
            Check.due("30: the other one stays", x.orderText(1 - into), into == 1 ? "4- 1+" : "7- 6+ 2-");
        }
    }

    /** "the other one, or the same" */
    private static void productOfOneWithItself() {
        Orderlattice x = Made.withOrders("6+ 3-", "6+ 3- 0+");
        Check.due("30: two steps with themselves", x.product(0, 0, 2), x.classes(0));
        Check.due("30: four steps", x.orderText(2), "6+ 3- 6+ 3-");
        Check.dueRefused(x, "30: three steps with themselves", () -> x.product(1, 1, 2));
        Check.dueRefused(x, "30: three steps with themselves into themselves", () -> x.product(1, 1, 1));
        Check.due("30: two steps with themselves into themselves", x.product(0, 0, 0), x.classes(2));
        Check.due("30: four steps in the same order", x.orderText(0), "6+ 3- 6+ 3-");
        Check.dueRefused(x, "30: four steps with themselves into themselves", () -> x.product(0, 0, 0));
    }

    private static void productWithoutSteps() {
        Orderlattice x = Made.withOrders("", "0+ 1+ 2+ 3+ 4+", "", "5-");
        Check.due("30: none and none", x.product(0, 2, 3), 1);
        Check.due("30: none and none, the order", x.orderText(3), "");
        Check.dueStays(x, "30: none and none into none", 1, () -> x.product(0, 0, 0));
        Check.dueStays(x, "30: none and five into the five", 16, () -> x.product(0, 1, 1));
        Check.dueStays(x, "30: five and none into the five", 16, () -> x.product(1, 0, 1));
        Check.due("30: five and none into none", x.product(1, 0, 0), 16);
        Check.due("30: the five steps", x.orderText(0), "0+ 1+ 2+ 3+ 4+");
    }

    private static void productThrowsAheadOfRefused() {
        for (int order : NO_ORDERS) {
            Orderlattice x = Made.full();
            Check.dueIndex(x, "30: one " + order, () -> x.product(order, 0, 1));
            Check.dueIndex(x, "30: other " + order, () -> x.product(0, order, 1));
            Check.dueIndex(x, "30: into " + order, () -> x.product(0, 1, order));
            Check.dueIndex(x, "30: all " + order, () -> x.product(order, order, order));
        }
    }

    // ---- 31: tellApart

    /** "REFUSED if they are .. one and the same" */
    private static void tellApartOfOneAndTheSame() {
        Orderlattice x = Made.withOrders("", "7-", "0+");
        for (int order = 0; order <= 2; order++) {
            int of = order;
            Check.dueRefused(x, "31: 0 and 0 of order " + order, () -> x.tellApart(of, 0, 0));
            Check.dueRefused(x, "31: 15 and 15 of order " + order, () -> x.tellApart(of, 15, 15));
        }
    }

    /** "REFUSED if they are not ALIKE" */
    private static void tellApartOfUnlikeOnes() {
        Orderlattice x = Made.withOrders("3+", "3-", "4+ 5- 1+ 7+");
        for (int order = 0; order <= 1; order++) {
            int of = order;
            Check.dueRefused(x, "31: 0 ahead of 1 or behind it, order " + order, () -> x.tellApart(of, 0, 1));
            Check.dueRefused(x, "31: 1 ahead of 0 or behind it, order " + order, () -> x.tellApart(of, 1, 0));
        }
        Check.dueRefused(x, "31: the third step tells them apart", () -> x.tellApart(2, 15, 0));
        x.unstep(2);
        x.unstep(2);
        // By key 3 there would be 16 classes, by key 6 only 14.
        Check.due("31: two steps do not", x.tellApart(2, 15, 0), 6);
    }

    /** "or the ORDER has 5 STEPS": refused once, for whatever reasons. */
    private static void tellApartIsRefusedIfThereAreFive() {
        Orderlattice x = Made.withOrders("7+ 7- 7+ 7-", "7+ 7+ 7+ 7+ 7+", "3+ 7+ 7+ 7+ 7+");
        Check.due("31: a fifth step", x.tellApart(0, 0, 1), 3);
        Check.due("31: it is UP", x.orderText(0), "7+ 7- 7+ 7- 3+");
        Check.dueRefused(x, "31: a sixth step", () -> x.tellApart(0, 0, 2));
        Check.dueRefused(x, "31: alike by five steps", () -> x.tellApart(1, 0, 1));
        Check.dueRefused(x, "31: not alike by five steps", () -> x.tellApart(2, 0, 1));
        Check.dueRefused(x, "31: one and the same, and five steps", () -> x.tellApart(1, 9, 9));
        Check.dueArgument(x, "31: value 16, and five steps", () -> x.tellApart(1, 0, 16));
        Check.dueArgument(x, "31: both 16, and five steps", () -> x.tellApart(1, 16, 16));
        Check.dueIndex(x, "31: order 4, both 16", () -> x.tellApart(4, 16, 16));
    }

    /** "that with which it has the fewest CLASSES (of several the smallest KEY)" */
    private static void tellApartOfSeveralTakesTheSmallestKey() {
        Orderlattice x = Made.withOrders("", "1+ 3+", "3- 4-", "0+");
        // By keys 0, 1, 2, 5, 6 they are unlike; 1 and 2 make 4 classes each.
        Check.due("31: 0 and 6, of keys 1 and 2", x.tellApart(0, 0, 6), 1);
        // Whatever key tells these apart makes 16 classes.
        Check.due("31: 0 and 2 of a quarter, of all keys", x.tellApart(1, 2, 0), 0);
        // Modulo 6 these are alike.
        Check.due("31: 3 and 9", x.tellApart(2, 3, 9), expectedKey("3- 4-", 3, 9));
        Check.due("31: the steps, UP", x.orderText(1), "1+ 3+ 0+");
        Check.dueRefused(x, "31: by 0+ none are alike", () -> x.tellApart(3, 0, 15));
    }

    /** Tries each key by the other calls of the face. */
    private static int expectedKey(String steps, int one, int other) {
        int best = -1;
        int fewest = 17;
        for (int key = 0; key <= 7; key++) {
            Orderlattice x = Made.withOrders(steps);
            int classes = x.step(0, key, false);
            if (x.keyOf(key, one) != x.keyOf(key, other) && classes < fewest) {
                best = key;
                fewest = classes;
            }
        }
        return best;
    }

    /** By the second reading of the document, of each two values and each order of two steps. */
    private static void tellApartOfEachTwoValues() {
        for (int first = 1; first <= 7; first++) {
            for (int second = 1; second <= 7; second++) {
                for (int pair = 0; pair < 256; pair++) {
                    Orderlattice x = new Orderlattice();
                    Model m = new Model();
                    boolean isDown = pair % 2 == 0;
                    x.step(0, first, isDown);
                    x.step(0, second, !isDown);
                    m.step(0, first, isDown);
                    m.step(0, second, !isDown);
                    int key = x.tellApart(0, pair / 16, pair % 16);
                    String of = " of " + pair / 16 + " and " + pair % 16 + " by " + first + " " + second;
                    Check.due("31: the key" + of, key, m.tellApart(0, pair / 16, pair % 16));
                    Check.due("31: the order" + of, x.orderText(0), m.orderText(0));
                }
            }
        }
    }

    /** "if one or other is not 0 to 15" */
    private static void tellApartTakesEachValueAndNoOther() {
        Orderlattice x = new Orderlattice();
        for (int value : NO_VALUES) {
            Check.dueArgument(x, "31: one " + value, () -> x.tellApart(0, value, 0));
            Check.dueArgument(x, "31: other " + value, () -> x.tellApart(0, 0, value));
            Check.dueArgument(x, "31: both " + value, () -> x.tellApart(0, value, value));
        }
        Check.due("31: 0 and 15", x.tellApart(0, 0, 15), 3);
        Check.due("31: 15 and 0", x.tellApart(1, 15, 0), 3);
    }

    // ---- "if there is no such ORDER"

    private static void noSuchOrder() {
        for (int order : NO_ORDERS) {
            Orderlattice x = Made.inUse();
            Check.dueIndex(x, "25: step of order " + order, () -> x.step(order, 0, false));
            Check.dueIndex(x, "26: unstep of order " + order, () -> x.unstep(order));
            Check.dueIndex(x, "27: wipe of order " + order, () -> x.wipe(order));
            Check.dueIndex(x, "28: copyOrder from order " + order, () -> x.copyOrder(order, 0));
            Check.dueIndex(x, "28: copyOrder into order " + order, () -> x.copyOrder(0, order));
            Check.dueIndex(x, "29: turn of order " + order, () -> x.turn(order));
            Check.dueIndex(x, "31: tellApart of order " + order, () -> x.tellApart(order, 0, 1));
            Check.dueIndex(x, "31: tellApart of order " + order + ", one and the same",
                    () -> x.tellApart(order, 0, 0));
        }
    }
}
