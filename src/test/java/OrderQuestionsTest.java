/** Promises 32 to 40: what is asked of orders. */
public final class OrderQuestionsTest {
    public static void main(String[] args) {
        orderText();
        compare();
        both();
        refines();
        areSame();
        apart();
        classesAndRank();
        keyOf();
        outOfBounds();
        Check.end();
    }

    private static Orderlattice twoOrders(String first, String second) {
        Orderlattice x = new Orderlattice();
        String[] both = {first, second};
        for (int order = 0; order < 2; order++) {
            for (String step : both[order].split(" ")) {
                x.step(order, step.charAt(0) - '0', step.charAt(1) == '-');
            }
        }
        return x;
    }

    private static void orderText() {
        Orderlattice x = new Orderlattice();
        Check.due("32: none", x.orderText(0), "");
        x.step(0, 7, true);
        Check.due("32: one", x.orderText(0), "7-");
        x.step(0, 0, false);
        x.step(0, 0, false);
        Check.due("32: three", x.orderText(0), "7- 0+ 0+");
    }

    private static void compare() {
        Orderlattice x = new Orderlattice();
        Check.due("33: without steps", x.compare(0, 0, 15), 0);
        x.step(0, 4, true);
        Check.due("33: DOWN, the greater one", x.compare(0, 2, 1), -1);
        Check.due("33: DOWN, the smaller one", x.compare(0, 1, 2), 1);
        Check.due("33: alike", x.compare(0, 2, 14), 0);
        x.step(0, 5, false);
        Check.due("33: the first step decides", x.compare(0, 15, 8), 1);
        Check.due("33: the second step decides", x.compare(0, 14, 8), 1);
        Check.due("33: the other way round", x.compare(0, 8, 14), -1);
        Check.due("33: below 8 the numbers of key 5 fall", x.compare(0, 1, 7), 1);
        Check.due("33: a value with itself", x.compare(0, 9, 9), 0);
    }

    private static void both() {
        Orderlattice x = new Orderlattice();
        x.step(0, 1, false);
        x.step(1, 2, false);
        Check.due("34: alike by each", x.both(0, 0, 4, 7), 0);
        Check.due("34: ahead by each", x.both(0, 1, 0, 5), -1);
        Check.due("34: behind by each", x.both(0, 1, 5, 0), 1);
        Check.due("34: ahead by the one, alike by the other", x.both(0, 1, 0, 4), -1);
        Check.due("34: alike by the one, ahead by the other", x.both(0, 1, 4, 5), -1);
        Check.due("34: behind by the one, alike by the other", x.both(0, 1, 4, 0), 1);
        Check.due("34: alike by the one, behind by the other", x.both(0, 1, 5, 4), 1);
        Check.due("34: apart", x.both(0, 1, 3, 4), 2);
        Check.due("34: apart the other way round", x.both(0, 1, 4, 3), 2);
        Check.due("34: with itself", x.both(0, 0, 3, 4), -1);
        Check.due("34: one value", x.both(0, 1, 6, 6), 0);
    }

    private static void refines() {
        Orderlattice x = new Orderlattice();
        x.step(0, 0, false);
        x.step(1, 1, false);
        Check.due("35: values, quarters", x.refines(0, 1), true);
        Check.due("35: quarters, values", x.refines(1, 0), false);
        Check.due("35: itself", x.refines(1, 1), true);
        Check.due("35: one without steps", x.refines(1, 3), true);
        Check.due("35: one without steps refines none", x.refines(3, 1), false);
        Check.due("35: both without steps", x.refines(2, 3), true);
        x.turn(1);
        Check.due("35: turned", x.refines(0, 1), false);
        x.step(2, 3, false);
        x.product(2, 1, 3);
        Check.due("35: a product, the first one", x.refines(3, 2), true);
        Check.due("35: a product, the second one", x.refines(3, 1), false);
        x = twoOrders("4+ 5+", "4+ 5+ 6+");
        Check.due("35: only 0 is not ahead of 15", x.refines(0, 1), false);
        Check.due("35: one step more", x.refines(1, 0), true);
        x = twoOrders("4+ 5+", "4+ 5+ 6-");
        Check.due("35: only 15 is not ahead of 0", x.refines(0, 1), false);
    }

    private static void areSame() {
        Orderlattice x = new Orderlattice();
        Check.due("36: without steps", x.areSame(0, 1), true);
        x.step(0, 7, true);
        Check.due("36: all alike by key 7", x.areSame(0, 1), true);
        x.step(0, 0, false);
        Check.due("36: unlike", x.areSame(0, 1), false);
        x.step(1, 1, false);
        Check.due("36: the one only refines", x.areSame(0, 1), false);
        x.step(1, 2, false);
        Check.due("36: other steps, compared alike", x.areSame(0, 1), true);
        x.turn(1);
        Check.due("36: turned", x.areSame(0, 1), false);
        Check.due("36: itself", x.areSame(1, 1), true);
        x = twoOrders("4+ 5+", "4+ 5+ 6+");
        Check.due("36: only 0 and 15 are compared unlike", x.areSame(0, 1), false);
        Check.due("36: the other way round", x.areSame(1, 0), false);
        x = twoOrders("0+", "1+ 6+");
        Check.due("36: only neighbours are compared unlike", x.areSame(0, 1), false);
    }

    private static void apart() {
        Orderlattice x = new Orderlattice();
        x.step(0, 0, false);
        x.step(1, 0, true);
        Check.due("37: all pairs", x.apart(0, 1), 120);
        Check.due("37: with itself", x.apart(0, 0), 0);
        Check.due("37: with one without steps", x.apart(0, 2), 0);
        x.step(2, 3, false);
        // Odd ones below even ones: 1 below 7 of them, 3 below 6, .., 13 below 1.
        Check.due("37: even ones first", x.apart(0, 2), 28);
        Check.due("37: the other way round", x.apart(2, 0), 28);
        x.step(3, 1, true);
        Check.due("37: quarters down", x.apart(3, 0), 96);
    }

    private static void classesAndRank() {
        Orderlattice x = new Orderlattice();
        Check.due("38: without steps", x.classes(0), 1);
        Check.due("39: without steps", x.rank(0, 9), 0);
        x.step(0, 6, true);
        Check.due("38: by binary digits", x.classes(0), 5);
        Check.due("39: of 15", x.rank(0, 15), 0);
        Check.due("39: of 7", x.rank(0, 7), 1);
        Check.due("39: of 8", x.rank(0, 8), 3);
        Check.due("39: of 0", x.rank(0, 0), 4);
        x.step(0, 4, false);
        // 4 digits: 15. 3: 7 13 | 14 11. 2: 3 6 9 12 | 10 | 5. 1: 1 4 | 2 8. 0: 0.
        Check.due("38: by binary digits and modulo 3", x.classes(0), 9);
        Check.due("39: of 14", x.rank(0, 14), 2);
        Check.due("39: of 12", x.rank(0, 12), 3);
        Check.due("39: of 10", x.rank(0, 10), 4);
        Check.due("39: of 5", x.rank(0, 5), 5);
        Check.due("39: of 8 then", x.rank(0, 8), 7);
        Check.due("39: of 0 then", x.rank(0, 0), 8);
        x.put(0, 3);
        Check.due("38: things do not matter", x.classes(0), 9);
    }

    private static void keyOf() {
        Orderlattice x = new Orderlattice();
        int[][] due = {
            {0, 1, 2, 3, 4, 5, 6, 7, 8, 9, 10, 11, 12, 13, 14, 15},
            {0, 0, 0, 0, 1, 1, 1, 1, 2, 2, 2, 2, 3, 3, 3, 3},
            {0, 1, 2, 3, 0, 1, 2, 3, 0, 1, 2, 3, 0, 1, 2, 3},
            {0, 1, 0, 1, 0, 1, 0, 1, 0, 1, 0, 1, 0, 1, 0, 1},
            {0, 1, 2, 0, 1, 2, 0, 1, 2, 0, 1, 2, 0, 1, 2, 0},
            {7, 6, 5, 4, 3, 2, 1, 0, 0, 1, 2, 3, 4, 5, 6, 7},
            {0, 1, 1, 2, 1, 2, 2, 3, 1, 2, 2, 3, 2, 3, 3, 4},
            {0, 0, 0, 0, 0, 0, 0, 0, 0, 0, 0, 0, 0, 0, 0, 0}};
        for (int key = 0; key < 8; key++) {
            for (int value = 0; value < 16; value++) {
                Check.due("40: key " + key + " of " + value, x.keyOf(key, value), due[key][value]);
            }
        }
        Check.dueArgument(x, "40: key 8", () -> x.keyOf(8, 0));
        Check.dueArgument(x, "40: key -1", () -> x.keyOf(-1, 0));
        Check.dueArgument(x, "40: value 16", () -> x.keyOf(0, 16));
        Check.dueArgument(x, "40: value -1", () -> x.keyOf(7, -1));
    }

    private static void outOfBounds() {
        for (int order = -1; order <= 4; order += 5) {
            Orderlattice x = Made.withOrders("0+");
            int wrong = order;
            String of = " of " + order;
            Check.dueIndex(x, "32: orderText" + of, () -> x.orderText(wrong));
            Check.dueIndex(x, "33: compare" + of, () -> x.compare(wrong, 16, 16));
            Check.dueIndex(x, "34: both, one" + of, () -> x.both(wrong, 0, 16, 16));
            Check.dueIndex(x, "34: both, other" + of, () -> x.both(0, wrong, 16, 16));
            Check.dueIndex(x, "35: refines, one" + of, () -> x.refines(wrong, 0));
            Check.dueIndex(x, "35: refines, other" + of, () -> x.refines(0, wrong));
            Check.dueIndex(x, "36: areSame, one" + of, () -> x.areSame(wrong, 0));
            Check.dueIndex(x, "36: areSame, other" + of, () -> x.areSame(0, wrong));
            Check.dueIndex(x, "37: apart, one" + of, () -> x.apart(wrong, 0));
            Check.dueIndex(x, "37: apart, other" + of, () -> x.apart(0, wrong));
            Check.dueIndex(x, "38: classes" + of, () -> x.classes(wrong));
            Check.dueIndex(x, "39: rank" + of, () -> x.rank(wrong, 16));
        }
        for (int value = -1; value <= 16; value += 17) {
            Orderlattice x = Made.withOrders("0+");
            int wrong = value;
            String of = " of value " + value;
            Check.dueArgument(x, "33: compare, one" + of, () -> x.compare(0, wrong, 0));
            Check.dueArgument(x, "33: compare, other" + of, () -> x.compare(0, 0, wrong));
            Check.dueArgument(x, "34: both, one" + of, () -> x.both(0, 1, wrong, 0));
            Check.dueArgument(x, "34: both, two" + of, () -> x.both(0, 1, 0, wrong));
            Check.dueArgument(x, "39: rank" + of, () -> x.rank(0, wrong));
        }
    }
}
