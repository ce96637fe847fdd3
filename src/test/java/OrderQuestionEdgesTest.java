/** The sentences of promises 32 to 40 that name a boundary case, each with a test of its own. */
public final class OrderQuestionEdgesTest {
    private static final int LEAST = Integer.MIN_VALUE;
    private static final int GREATEST = Integer.MAX_VALUE;
    private static final int[] NO_ORDERS = {LEAST, -1, 4, GREATEST};
    private static final int[] NO_VALUES = {LEAST, -1, 16, GREATEST};
    private static final String[] SEVERAL = {"", "7-", "3+", "4-", "1+ 3-", "6+ 5- 2+", "0- 0+ 7- 2+ 1-",
        "7+ 7- 7+ 7- 0+", "3- 4+ 7+ 6-", "2+ 1+"};

    public static void main(String[] args) {
        orderTextOfNoneToFive();
        compareWithoutSteps();
        compareOfAValueWithItself();
        compareByTheFirstStepThatTells();
        compareUpAndDown();
        bothWithoutSteps();
        bothOfAnOrderWithItself();
        bothOfEachKind();
        bothOfEachTwoValues();
        refinesItself();
        refinesOneWithoutSteps();
        refinesAllButOnePair();
        areSameOfOneWithItself();
        areSameOfOtherSteps();
        areSameOfAllButOnePair();
        apartOfOneWithItself();
        apartOfNoneOneAndAllPairs();
        classesOfOneToSixteen();
        classesOfFiveSteps();
        ranksCountClassesOfAllValues();
        ranksOfOneAndOfSixteenClasses();
        keyOfFiveAtItsTurn();
        keyOfEachKeyAndNoOther();
        eachValueAndNoOther();
        noSuchOrder();
        Check.end();
    }

    // ---- 32: orderText

    /** "with " " between; "" without" */
    private static void orderTextOfNoneToFive() {
        String[] due = {"", "0+", "0+ 7-", "0+ 7- 3+", "0+ 7- 3+ 3-", "0+ 7- 3+ 3- 5-"};
        for (int many = 0; many <= 5; many++) {
            String of = due[many];
            Orderlattice x = Made.withOrders("", of);
            Check.dueStays(x, "32: of " + many, of, () -> x.orderText(1));
            x.wipe(1);
            Check.dueStays(x, "32: wiped", "", () -> x.orderText(1));
        }
    }

    // ---- 33: compare

    /** "If there is no such STEP, they are ALIKE." */
    private static void compareWithoutSteps() {
        Orderlattice x = Made.withOrders("", "7+ 7- 7+ 7- 7+");
        for (int order = 0; order <= 1; order++) {
            int by = order;
            Check.dueStays(x, "33: 0 and 15 by order " + order, 0, () -> x.compare(by, 0, 15));
            Check.dueStays(x, "33: 15 and 0 by order " + order, 0, () -> x.compare(by, 15, 0));
            Check.dueStays(x, "33: 7 and 8 by order " + order, 0, () -> x.compare(by, 7, 8));
        }
    }

    private static void compareOfAValueWithItself() {
        Orderlattice x = Made.withOrders("0+", "0-", "", "6- 5+ 4- 2+ 1-");
        for (int order = 0; order <= 3; order++) {
            for (int value = 0; value <= 15; value++) {
                Check.due("33: " + value + " with itself by order " + order, x.compare(order, value, value), 0);
            }
        }
    }

    /** "the first STEP by whose KEY they have unlike numbers decides": each of the five may be that. */
    private static void compareByTheFirstStepThatTells() {
        String[] orders = {"0+ 0- 0- 0- 0-", "7- 0+ 0- 0- 0-", "7- 3- 0+ 0- 0-", "7- 3- 4- 0+ 0-"};
        int[] later = {15, 14, 14, 12};
        int[] earlier = {0, 1, 2, 6};
        for (int deciding = 0; deciding < orders.length; deciding++) {
            Orderlattice x = Made.withOrders(orders[deciding]);
            Check.due("33: step " + (deciding + 1) + " decides", x.compare(0, earlier[deciding], later[deciding]), -1);
            Check.due("33: step " + (deciding + 1) + " decides the other way round",
                    x.compare(0, later[deciding], earlier[deciding]), 1);
        }
        Orderlattice x = Made.withOrders("7- 7+ 7- 7+ 0+", "7- 7+ 7- 7+ 0-");
        Check.due("33: the fifth step decides, UP", x.compare(0, 14, 15), -1);
        Check.due("33: the fifth step decides, DOWN", x.compare(1, 14, 15), 1);
        Check.due("33: the fourth step decides ahead of the fifth",
                Made.withOrders("7- 3- 4- 1- 0+").compare(0, 6, 12), 1);
    }

    /** "UP the one with the smaller number is AHEAD of the other one .., DOWN the one with the greater number" */
    private static void compareUpAndDown() {
        for (int key = 0; key <= 7; key++) {
            Orderlattice x = Made.withOrders(key + "+", key + "-");
            for (int pair = 0; pair < 64; pair++) {
                int one = pair * 5 % 16;
                int other = pair * 3 / 4 % 16;
                int due = Integer.compare(x.keyOf(key, one), x.keyOf(key, other));
                String of = " by key " + key + " of " + one + " and " + other;
                Check.due("33: UP" + of, x.compare(0, one, other), due);
                Check.due("33: DOWN" + of, x.compare(1, one, other), -due);
            }
        }
    }

    // ---- 34: both

    private static void bothWithoutSteps() {
        Orderlattice x = Made.withOrders("", "", "0-");
        Check.dueStays(x, "34: both without steps", 0, () -> x.both(0, 1, 0, 15));
        Check.dueStays(x, "34: the one without steps", 1, () -> x.both(0, 2, 0, 15));
        Check.dueStays(x, "34: the other one without steps", 1, () -> x.both(2, 0, 0, 15));
        Check.dueStays(x, "34: the other one without steps, the other way", -1, () -> x.both(2, 0, 15, 0));
    }

    /** "an ORDER, or the same" */
    private static void bothOfAnOrderWithItself() {
        for (String steps : SEVERAL) {
            Orderlattice x = Made.withOrders("", "", "", steps);
            for (int pair = 0; pair < 128; pair++) {
                int one = pair % 16;
                int two = pair / 8;
                Check.due("34: with itself, " + steps + ", " + one + " and " + two, x.both(3, 3, one, two),
                        x.compare(3, one, two));
            }
        }
    }

    /** AHEAD, ALIKE and behind by the one, with each of these by the other one. */
    private static void bothOfEachKind() {
        Orderlattice x = Made.withOrders("1+", "2+");
        int[] twos = {10, 9, 8, 6, 5, 4, 2, 1, 0};
        int[] due = {-1, -1, 2, -1, 0, 1, 2, 1, 1};
        for (int i = 0; i < twos.length; i++) {
            Check.due("34: 5 and " + twos[i], x.both(0, 1, 5, twos[i]), due[i]);
            Check.due("34: 5 and " + twos[i] + ", the orders changed", x.both(1, 0, 5, twos[i]), due[i]);
            Check.due("34: " + twos[i] + " and 5", x.both(0, 1, twos[i], 5), due[i] == 2 ? 2 : -due[i]);
        }
    }

    private static void bothOfEachTwoValues() {
        Orderlattice x = Made.withOrders("0+", "0-");
        for (int one = 0; one <= 15; one++) {
            for (int two = 0; two <= 15; two++) {
                Check.due("34: up and down, " + one + " and " + two, x.both(0, 1, one, two), one == two ? 0 : 2);
            }
        }
    }

    // ---- 35: refines

    /** "an ORDER, or the same" */
    private static void refinesItself() {
        for (String steps : SEVERAL) {
            Orderlattice x = Made.withOrders(steps, steps);
            Check.dueStays(x, "35: itself, " + steps, true, () -> x.refines(0, 0));
            Check.due("35: one with the same steps, " + steps, x.refines(0, 1), true);
            x.turn(1);
            Check.due("35: turned, " + steps, x.refines(0, 1), x.classes(0) == 1);
        }
    }

    private static void refinesOneWithoutSteps() {
        for (String steps : SEVERAL) {
            Orderlattice x = Made.withOrders(steps, "", "7+ 7-");
            Check.due("35: one without steps, " + steps, x.refines(0, 1), true);
            Check.due("35: one by which all are alike, " + steps, x.refines(0, 2), true);
            Check.due("35: without steps none but such, " + steps, x.refines(1, 0), x.classes(0) == 1);
        }
    }

    private static void refinesAllButOnePair() {
        // By 4 and 5 only 0 and 15, 3 and 12, 6 and 9 are alike; of these 6 tells only 0 and 15 apart.
        Orderlattice x = Made.withOrders("4+ 5+", "4+ 5+ 6+", "4+ 5+ 6-");
        Check.due("35: one step more", x.refines(1, 0), true);
        Check.due("35: one step more, DOWN", x.refines(2, 0), true);
        Check.due("35: 0 is not ahead of 15", x.refines(0, 1), false);
        Check.due("35: 15 is not ahead of 0", x.refines(0, 2), false);
        Check.due("35: 0 ahead and behind of 15", x.refines(1, 2), false);
        Check.due("35: the other way round", x.refines(2, 1), false);
    }

    // ---- 36: areSame

    /** "an ORDER, or the same" */
    private static void areSameOfOneWithItself() {
        for (String steps : SEVERAL) {
            Orderlattice x = Made.withOrders(steps, steps);
            Check.dueStays(x, "36: itself, " + steps, true, () -> x.areSame(0, 0));
            Check.due("36: the same steps, " + steps, x.areSame(0, 1), true);
            x.turn(0);
            Check.due("36: turned, " + steps, x.areSame(0, 1), x.classes(0) == 1);
        }
    }

    /** "whether by both each two VALUES are compared alike", whatever the steps are. */
    private static void areSameOfOtherSteps() {
        Orderlattice x = Made.withOrders("", "7- 7+ 7- 7+ 7-", "0+", "1+ 2+ 6- 3+ 0-");
        Check.due("36: none and five by which all are alike", x.areSame(0, 1), true);
        Check.due("36: one step and five", x.areSame(2, 3), true);
        Check.due("36: five steps and one", x.areSame(3, 2), true);
        Check.due("36: none and one", x.areSame(0, 2), false);
        Check.due("36: one and none", x.areSame(2, 0), false);
    }

    private static void areSameOfAllButOnePair() {
        Orderlattice x = Made.withOrders("4+ 5+", "4+ 5+ 6+", "4+ 5+ 6-");
        Check.due("36: 0 and 15 alike, or not", x.areSame(0, 1), false);
        Check.due("36: 0 and 15 not alike, or so", x.areSame(2, 0), false);
        Check.due("36: 0 ahead and behind of 15", x.areSame(1, 2), false);
    }

    // ---- 37: apart

    private static void apartOfOneWithItself() {
        for (String steps : SEVERAL) {
            Orderlattice x = Made.withOrders("", steps, steps);
            Check.dueStays(x, "37: with itself, " + steps, 0, () -> x.apart(1, 1));
            Check.due("37: with one without steps, " + steps, x.apart(0, 1), 0);
            Check.due("37: one without steps with it, " + steps, x.apart(1, 0), 0);
            x.turn(2);
            int apart = 0;
            for (int pair = 0; pair < 256; pair++) {
                apart += pair % 16 < pair / 16 && x.compare(1, pair % 16, pair / 16) != 0 ? 1 : 0;
            }
            Check.due("37: with itself turned, " + steps, x.apart(1, 2), apart);
        }
    }

    /** "how many pairs of two VALUES (each counted once)" */
    private static void apartOfNoneOneAndAllPairs() {
        Orderlattice x = Made.withOrders("0+", "0-", "4+ 5+ 6+", "4+ 5+ 6-");
        Check.due("37: all pairs", x.apart(0, 1), 120);
        Check.due("37: all pairs, the orders changed", x.apart(1, 0), 120);
        Check.due("37: 0 and 15 alone", x.apart(2, 3), 1);
        Check.due("37: 0 and 15 alone, the orders changed", x.apart(3, 2), 1);
        x.unstep(3);
        Check.due("37: none", x.apart(2, 3), 0);
    }

    // ---- 38: classes, 39: rank

    private static void classesOfOneToSixteen() {
        String[] orders = {"", "7+", "3-", "4+", "2-", "6+", "3+ 4-", "5-", "6- 4+", "1+ 4-", "0-", "1- 2+"};
        int[] due = {1, 1, 2, 3, 4, 5, 6, 8, 9, 12, 16, 16};
        for (int i = 0; i < orders.length; i++) {
            Orderlattice x = Made.withOrders("", "", "", orders[i]);
            Check.dueStays(x, "38: of " + orders[i], due[i], () -> x.classes(3));
        }
    }

    private static void classesOfFiveSteps() {
        Orderlattice x = Made.withOrders("7+ 7+ 7+ 7+ 7+", "0+ 0+ 0+ 0+ 0+", "7+ 7+ 7+ 7+ 3+", "3+ 7+ 7+ 7+ 4-");
        int[] due = {1, 16, 2, 6};
        for (int order = 0; order <= 3; order++) {
            Check.due("38: five steps, order " + order, x.classes(order), due[order]);
            x.turn(order);
            Check.due("38: five steps turned, order " + order, x.classes(order), due[order]);
        }
    }

    /** "how many CLASSES (of all sixteen VALUES, also those that no THING has) are AHEAD of it" */
    private static void ranksCountClassesOfAllValues() {
        Orderlattice x = Made.withOrders("6+", "6-", "4+ 3-");
        int[] digits = {0, 1, 1, 2, 1, 2, 2, 3, 1, 2, 2, 3, 2, 3, 3, 4};
        // Modulo 3, of these the odd ones first: 3 9 15, 0 6 12, 1 7 13, 4 10, 5 11, 2 8 14.
        int[] thirds = {1, 2, 5, 0, 3, 4, 1, 2, 5, 0, 3, 4, 1, 2, 5, 0};
        for (int things = 0; things <= 1; things++) {
            for (int value = 0; value <= 15; value++) {
                Check.due("39: UP, of " + value, x.rank(0, value), digits[value]);
                Check.due("39: DOWN, of " + value, x.rank(1, value), 4 - digits[value]);
                Check.due("39: by two steps, of " + value, x.rank(2, value), thirds[value]);
            }
            x.fill(0, 12, 3, 0);
        }
    }

    private static void ranksOfOneAndOfSixteenClasses() {
        Orderlattice x = Made.withOrders("", "7- 7- 7- 7- 7-", "0+", "0-");
        for (int value = 0; value <= 15; value++) {
            Check.due("39: without steps, of " + value, x.rank(0, value), 0);
            Check.due("39: by five steps by which all are alike, of " + value, x.rank(1, value), 0);
            Check.due("39: by values, of " + value, x.rank(2, value), value);
            Check.due("39: by values DOWN, of " + value, x.rank(3, value), 15 - value);
        }
    }

    // ---- 40: keyOf

    /** "7 - v of 0 to 7, v - 8 of 8 to 15" */
    private static void keyOfFiveAtItsTurn() {
        Orderlattice x = new Orderlattice();
        int[] values = {0, 1, 6, 7, 8, 9, 14, 15};
        int[] due = {7, 6, 1, 0, 0, 1, 6, 7};
        for (int i = 0; i < values.length; i++) {
            int of = values[i];
            Check.dueStays(x, "40: key 5 of " + of, due[i], () -> x.keyOf(5, of));
        }
    }

    /** "if key is not 0 to 7, or value not 0 to 15" */
    private static void keyOfEachKeyAndNoOther() {
        int[] ofFifteen = {15, 3, 3, 1, 0, 7, 4, 0};
        int[] ofNone = {0, 0, 0, 0, 0, 7, 0, 0};
        Orderlattice x = new Orderlattice();
        for (int key = 0; key <= 7; key++) {
            Check.due("40: key " + key + " of 15", x.keyOf(key, 15), ofFifteen[key]);
            Check.due("40: key " + key + " of 0", x.keyOf(key, 0), ofNone[key]);
        }
        for (int key : new int[] {LEAST, -1, 8, GREATEST}) {
            Check.dueArgument(x, "40: key " + key, () -> x.keyOf(key, 0));
        }
        for (int value : NO_VALUES) {
            Check.dueArgument(x, "40: key 0 of value " + value, () -> x.keyOf(0, value));
            Check.dueArgument(x, "40: key 7 of value " + value, () -> x.keyOf(7, value));
        }
    }

    // ---- "if one or other is not 0 to 15"; "if there is no such ORDER (both)"

    private static void eachValueAndNoOther() {
        for (int value : NO_VALUES) {
            Orderlattice x = Made.withOrders("", "0+");
            for (int order = 0; order <= 1; order++) {
                int by = order;
                String of = " " + value + " by order " + order;
                Check.dueArgument(x, "33: one" + of, () -> x.compare(by, value, 0));
                Check.dueArgument(x, "33: other" + of, () -> x.compare(by, 0, value));
                Check.dueArgument(x, "33: both" + of, () -> x.compare(by, value, value));
                Check.dueArgument(x, "34: one" + of, () -> x.both(by, 1, value, 0));
                Check.dueArgument(x, "34: two" + of, () -> x.both(by, 1, 0, value));
                Check.dueArgument(x, "34: both" + of, () -> x.both(by, by, value, value));
                Check.dueArgument(x, "39: value" + of, () -> x.rank(by, value));
            }
        }
    }

    private static void noSuchOrder() {
        for (int order : NO_ORDERS) {
            Orderlattice x = Made.inUse();
            String of = " " + order;
            Check.dueIndex(x, "32: orderText of" + of, () -> x.orderText(order));
            Check.dueIndex(x, "33: compare by" + of, () -> x.compare(order, 16, 16));
            Check.dueIndex(x, "34: both, order" + of, () -> x.both(order, 0, 16, 16));
            Check.dueIndex(x, "34: both, other" + of, () -> x.both(0, order, 16, 16));
            Check.dueIndex(x, "35: refines, one" + of, () -> x.refines(order, 0));
            Check.dueIndex(x, "35: refines, other" + of, () -> x.refines(0, order));
            Check.dueIndex(x, "36: areSame, one" + of, () -> x.areSame(order, 0));
            Check.dueIndex(x, "36: areSame, other" + of, () -> x.areSame(0, order));
            Check.dueIndex(x, "37: apart, one" + of, () -> x.apart(order, 0));
            Check.dueIndex(x, "37: apart, other" + of, () -> x.apart(0, order));
            Check.dueIndex(x, "38: classes of" + of, () -> x.classes(order));
            Check.dueIndex(x, "39: rank by" + of, () -> x.rank(order, 16));
            Check.dueIndex(x, "36: areSame, both" + of, () -> x.areSame(order, order));
        }
    }
}
