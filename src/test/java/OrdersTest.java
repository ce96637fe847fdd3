/** Promises 25 to 31: what changes orders. */
public final class OrdersTest {
    public static void main(String[] args) {
        step();
        unstep();
        wipe();
        copyOrder();
        turn();
        product();
        productIntoOneOfBoth();
        productOutOfBounds();
        tellApart();
        tellApartRefused();
        Check.end();
    }

    private static void dueOrder(String what, Orderlattice x, OrderCall call) {
        Check.dueIndex(x, what + ": order 4", () -> call.answer(4));
        Check.dueIndex(x, what + ": order -1", () -> call.answer(-1));
    }

    private interface OrderCall {
        Object answer(int order);
    }

    private static void step() {
        int[] classes = {16, 4, 4, 2, 3, 8, 5, 1};
        for (int key = 0; key < 8; key++) {
            Orderlattice x = new Orderlattice();
            Check.due("25: classes by key " + key, x.step(0, key, false), classes[key]);
            Check.due("25: the step UP", x.orderText(0), key + "+");
            Check.due("25: the same key once more", x.step(0, key, true), classes[key]);
            Check.due("25: the step DOWN", x.orderText(0), key + "+ " + key + "-");
        }
        Orderlattice x = new Orderlattice();
        Check.due("25: first", x.step(3, 7, true), 1);
        Check.due("25: second", x.step(3, 3, false), 2);
        Check.due("25: third", x.step(3, 4, true), 6);
        Check.due("25: fourth", x.step(3, 1, false), 16);
        dueOrder("25: ahead of a wrong key", x, order -> x.step(order, 8, false));
        Check.dueArgument(x, "25: key 8", () -> x.step(3, 8, false));
        Check.dueArgument(x, "25: key -1", () -> x.step(3, -1, false));
        Check.due("25: fifth", x.step(3, 3, true), 16);
        Check.dueRefused(x, "25: a sixth", () -> x.step(3, 0, false));
        Check.dueArgument(x, "25: a wrong key to five steps", () -> x.step(3, 8, false));
        Check.due("25: all five", x.orderText(3), "7- 3+ 4- 1+ 3-");
        Check.due("25: the other order", x.orderText(2), "");
    }

    private static void unstep() {
        Orderlattice x = new Orderlattice();
        Check.dueRefused(x, "26: none", () -> x.unstep(1));
        x.step(1, 5, true);
        x.step(1, 2, false);
        Check.due("26: the last key", x.unstep(1), 2);
        Check.due("26: one is left", x.orderText(1), "5-");
        Check.due("26: its classes", x.classes(1), 8);
        Check.due("26: its rank", x.rank(1, 0), 0);
        Check.due("26: the first key", x.unstep(1), 5);
        Check.due("26: all alike then", x.classes(1), 1);
        Check.dueRefused(x, "26: none again", () -> x.unstep(1));
        dueOrder("26", x, order -> x.unstep(order));
    }

    private static void wipe() {
        Orderlattice x = new Orderlattice();
        Check.due("27: none", x.wipe(0), 0);
        x.step(0, 0, true);
        x.step(0, 1, true);
        x.step(1, 1, true);
        Check.due("27: two", x.wipe(0), 2);
        Check.due("27: no steps", x.orderText(0), "");
        Check.due("27: all alike", x.compare(0, 3, 4), 0);
        Check.due("27: one class", x.classes(0), 1);
        Check.due("27: rank 0", x.rank(0, 15), 0);
        Check.due("27: the other order stays", x.orderText(1), "1-");
        dueOrder("27", x, order -> x.wipe(order));
    }

    private static void copyOrder() {
        Orderlattice x = new Orderlattice();
        x.step(0, 4, true);
        x.step(0, 3, false);
        x.step(1, 0, false);
        Check.due("28: two", x.copyOrder(0, 1), 2);
        Check.due("28: the steps", x.orderText(1), "4- 3+");
        Check.due("28: the classes", x.classes(1), 6);
        Check.due("28: the same", x.copyOrder(1, 1), 2);
        Check.due("28: the same stays", x.orderText(1), "4- 3+");
        Check.due("28: the same compares as before", x.compare(1, 2, 0), -1);
        x.turn(1);
        Check.due("28: the other one is its own", x.orderText(0), "4- 3+");
        Check.due("28: none", x.copyOrder(3, 1), 0);
        Check.due("28: no steps", x.orderText(1), "");
        dueOrder("28: from", x, order -> x.copyOrder(order, 0));
        dueOrder("28: into", x, order -> x.copyOrder(0, order));
    }

    private static void turn() {
        Orderlattice x = new Orderlattice();
        Check.due("29: none", x.turn(2), 0);
        x.step(2, 1, false);
        x.step(2, 2, true);
        x.step(2, 3, false);
        Check.due("29: two DOWN then", x.turn(2), 2);
        Check.due("29: turned", x.orderText(2), "1- 2+ 3-");
        Check.due("29: compared the other way", x.compare(2, 15, 0), -1);
        Check.due("29: and back", x.turn(2), 1);
        Check.due("29: as it was", x.orderText(2), "1+ 2- 3+");
        Check.due("29: compared as it was", x.compare(2, 15, 0), 1);
        x.step(2, 4, true);
        x.unstep(2);
        Check.due("29: a step that went does not count", x.turn(2), 2);
        dueOrder("29", x, order -> x.turn(order));
    }

    private static void product() {
        Orderlattice x = new Orderlattice();
        Check.due("30: of none", x.product(0, 1, 2), 1);
        x.step(0, 1, true);
        x.step(0, 3, false);
        x.step(1, 2, false);
        x.step(1, 4, true);
        Check.due("30: its classes", x.product(0, 1, 2), 16);
        Check.due("30: the one's steps, then the other's", x.orderText(2), "1- 3+ 2+ 4-");
        Check.due("30: the one stays", x.orderText(0), "1- 3+");
        Check.due("30: the other stays", x.orderText(1), "2+ 4-");
        Check.dueRefused(x, "30: six steps", () -> x.product(2, 1, 3));
        Check.dueRefused(x, "30: eight steps", () -> x.product(2, 2, 2));
        x.unstep(0);
        Check.due("30: five steps", x.product(0, 2, 3), 16);
        Check.due("30: all five", x.orderText(3), "1- 1- 3+ 2+ 4-");
        Check.dueRefused(x, "30: six by one more", () -> x.product(3, 0, 1));
    }

    private static void productIntoOneOfBoth() {
        Orderlattice x = new Orderlattice();
        x.step(0, 3, false);
        x.step(1, 4, true);
        Check.due("30: into the one", x.product(0, 1, 0), 6);
        Check.due("30: the one then", x.orderText(0), "3+ 4-");
        x.wipe(0);
        x.step(0, 1, false);
        Check.due("30: into the other", x.product(0, 1, 1), 12);
        Check.due("30: the other then", x.orderText(1), "1+ 4-");
        Check.due("30: with itself into another", x.product(1, 1, 2), 12);
        Check.due("30: twice", x.orderText(2), "1+ 4- 1+ 4-");
        Check.due("30: with itself into itself", x.product(1, 1, 1), 12);
        Check.due("30: twice into itself", x.orderText(1), "1+ 4- 1+ 4-");
    }

    private static void productOutOfBounds() {
        Orderlattice x = new Orderlattice();
        for (int i = 0; i < 5; i++) {
            x.step(0, i, false);
        }
        dueOrder("30: one", x, order -> x.product(order, 0, 0));
        dueOrder("30: other", x, order -> x.product(0, order, 0));
        dueOrder("30: into, ahead of what is refused", x, order -> x.product(0, 0, order));
    }

    private static void tellApart() {
        Orderlattice x = new Orderlattice();
        // 0 and 1: unlike by 0 (16 classes), 2 (4), 3 (2), 4 (3), 5 (8), 6 (5).
        Check.due("31: the fewest classes", x.tellApart(0, 0, 1), 3);
        Check.due("31: UP", x.orderText(0), "3+");
        // 0 and 6: alike by 3 and 4; by 2 the order has 4 classes, as few as by none other.
        Check.due("31: the fewest classes then", x.tellApart(0, 0, 6), 2);
        Check.due("31: UP, too", x.orderText(0), "3+ 2+");
        // 0 and 4: alike by 2 and 3; unlike by 0 (16), 1 (16), 4 (12), 5 (16), 6 (12).
        Check.due("31: of several the smallest key", x.tellApart(0, 4, 0), 4);
        Check.due("31: 0 and 15", x.tellApart(1, 15, 0), 3);
        x.step(2, 3, true);
        x.step(2, 1, false);
        Check.due("31: behind other steps", x.tellApart(2, 8, 10), expectedKey("3- 1+", 8, 10));
        for (int one = 0; one < 16; one++) {
            for (int other = 0; other < 16; other++) {
                if (one != other) {
                    Orderlattice y = new Orderlattice();
                    Check.due("31: " + one + " and " + other, y.tellApart(0, one, other),
                            expectedKey("", one, other));
                    Check.due("31: unlike then", y.compare(0, one, other) != 0, true);
                }
            }
        }
    }

    /** Tries each key by the other methods of the face. */
    private static int expectedKey(String steps, int one, int other) {
        int best = -1;
        int fewest = 17;
        for (int key = 0; key < 8; key++) {
            Orderlattice x = new Orderlattice();
            for (int at = 0; at + 1 < steps.length(); at += 3) {
                x.step(0, steps.charAt(at) - '0', steps.charAt(at + 1) == '-');
            }
            int classes = x.step(0, key, false);
            if (x.keyOf(key, one) != x.keyOf(key, other) && classes < fewest) {
                best = key;
                fewest = classes;
            }
        }
        return best;
    }

    private static void tellApartRefused() {
        Orderlattice x = new Orderlattice();
        Check.dueRefused(x, "31: one and the same", () -> x.tellApart(0, 7, 7));
        x.step(0, 3, false);
        Check.dueRefused(x, "31: not alike", () -> x.tellApart(0, 7, 8));
        dueOrder("31: ahead of a wrong value", x, order -> x.tellApart(order, 16, 16));
        Check.dueArgument(x, "31: one 16", () -> x.tellApart(0, 16, 1));
        Check.dueArgument(x, "31: one -1", () -> x.tellApart(0, -1, 1));
        Check.dueArgument(x, "31: other 16", () -> x.tellApart(0, 1, 16));
        Check.dueArgument(x, "31: other -1", () -> x.tellApart(0, 1, -1));
        Check.dueArgument(x, "31: both wrong and the same", () -> x.tellApart(0, 16, 16));
        for (int i = 0; i < 4; i++) {
            x.step(0, 7, false);
        }
        Check.dueRefused(x, "31: five steps", () -> x.tellApart(0, 1, 3));
        x.unstep(0);
        Check.due("31: four steps", x.tellApart(0, 1, 3), 2);
    }
}
