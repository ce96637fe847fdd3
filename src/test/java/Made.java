/** Objects in the states that tests ask for. */
final class Made {
    private Made() {
    }

    static Orderlattice withRow(int... values) {
        Orderlattice x = new Orderlattice();
        put(x, 0, values);
        return x;
    }

    /** Orders from 0 on, each as orderText() tells it. */
    static Orderlattice withOrders(String... orders) {
        Orderlattice x = new Orderlattice();
        for (int order = 0; order < orders.length; order++) {
            step(x, order, orders[order]);
        }
        return x;
    }

    static Orderlattice withRowAndOrder(String order, int... values) {
        Orderlattice x = withRow(values);
        step(x, 0, order);
        return x;
    }

    static void put(Orderlattice x, int row, int... values) {
        for (int value : values) {
            x.put(row, value);
        }
    }

    static void step(Orderlattice x, int order, String steps) {
        for (int at = 0; at + 1 < steps.length(); at += 3) {
            x.step(order, steps.charAt(at) - '0', steps.charAt(at + 1) == '-');
        }
    }

    /** Twelve things in each row, five steps in each order; row 0 is in sequence by order 0, row 1 is not. */
    static Orderlattice full() {
        Orderlattice x = withOrders("7- 7+ 3+ 3- 7-", "1+ 2- 0+ 5- 6+", "4- 4- 4- 4- 4-", "0- 1- 2- 3- 4-");
        x.fill(0, 12, 2, 2);
        x.fill(1, 12, 5, 7);
        x.fill(2, 12, 99, 99);
        return x;
    }

    /** Rows of 5, 0 and 11 things, orders of 2, 0, 4 and 1 steps; some of everything was counted. */
    static Orderlattice inUse() {
        Orderlattice x = withOrders("1+ 3-", "", "6+ 7- 2- 4+", "0-");
        x.fill(0, 6, 9, 11);
        x.fill(2, 11, 3, 5);
        x.drop(0, 1);
        x.unstep(1);
        x.knock();
        x.knock();
        return x;
    }
}
