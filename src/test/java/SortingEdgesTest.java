/** The sentences of promises 11 to 13 that name a boundary case, each with a test of its own. */
public final class SortingEdgesTest {
    private static final int LEAST = Integer.MIN_VALUE;
    private static final int GREATEST = Integer.MAX_VALUE;
    private static final int[] NO_ROWS = {LEAST, -1, 3, GREATEST};
    private static final int[] NO_ORDERS = {LEAST, -1, 4, GREATEST};

    public static void main(String[] args) {
        sortOfEachSize();
        sortCountsThingsNotValues();
        sortOfAlikeOnes();
        sortWithoutStepsAndWithFive();
        sortByEachWayAndNoOther();
        sortPartOfNoneAndOne();
        sortPartLeavesTheOthers();
        sortPartOfAlikeOnes();
        sortPartFromAboveTo();
        sortPartOfEachPlaceAndNoOther();
        sortPartOfEmptyAndFull();
        isSortedOfNoneAndOne();
        isSortedOfEachPair();
        isSortedOfAlikeNeighbours();
        noSuchRowOrOrder();
        Check.end();
    }

    // ---- 11: sort

    /** "Returns how many THINGS stand at another PLACE then.", of 0 to 12, sorted, turned, and sorted once more. */
    private static void sortOfEachSize() {
        for (int way = 0; way <= 2; way++) {
            for (int size = 0; size <= 12; size++) {
                Orderlattice x = Made.withOrders("0+", "0-");
                x.fill(1, size, 15, 15);
                String down = x.text(1);
                String of = " of " + size + ", way " + way;
                int moved = size % 2 == 0 ? size : size - 1;
                int by = way;
                Check.dueStays(x, "11: in sequence already" + of, 0, () -> x.sort(1, 1, by));
                Check.due("11: turned" + of, x.sort(1, 0, way), moved);
                for (int place = 0; place < size; place++) {
                    Check.due("11: place " + place + of, x.valueAt(1, place), 16 - size + place);
                    Check.due("11: its mark, place " + place + of, x.markAt(1, place), size - 1 - place);
                }
                Check.dueStays(x, "11: sorted once more" + of, 0, () -> x.sort(1, 0, by));
                Check.due("11: turned back" + of, x.sort(1, 1, way), moved);
                Check.due("11: the row as it was" + of, x.text(1), down);
            }
        }
    }

    /** A place that has the same value as before, but another thing, counts. */
    private static void sortCountsThingsNotValues() {
        for (int way = 0; way <= 2; way++) {
            Orderlattice x = Made.withRowAndOrder("0+", 5, 5, 0);
            Check.due("11: three moved, way " + way, x.sort(0, 0, way), 3);
            Check.due("11: the row, way " + way, x.text(0), "0.2 5.0 5.1");
            Orderlattice two = Made.withRowAndOrder("0+", 9, 2, 1, 12);
            Check.due("11: two moved, way " + way, two.sort(0, 0, way), 2);
            Check.due("11: the row of two moved, way " + way, two.text(0), "1.2 2.1 9.0 12.3");
        }
    }

    /** "ALIKE ones stand as they stood ahead of that" */
    private static void sortOfAlikeOnes() {
        for (int way = 0; way <= 2; way++) {
            Orderlattice x = Made.withRowAndOrder("3+", 7, 0, 5, 4, 7, 2, 1, 0, 3, 6, 9, 8);
            Check.due("11: moved by 3+, way " + way, x.sort(0, 0, way), 12);
            Check.due("11: even ones, then odd ones, way " + way, x.text(0),
                    "0.1 4.3 2.5 0.7 6.9 8.11 7.0 5.2 7.4 1.6 3.8 9.10");
            x.turn(0);
            Check.due("11: moved by 3-, way " + way, x.sort(0, 0, way), 12);
            Check.due("11: odd ones, then even ones, way " + way, x.text(0),
                    "7.0 5.2 7.4 1.6 3.8 9.10 0.1 4.3 2.5 0.7 6.9 8.11");
        }
    }

    private static void sortWithoutStepsAndWithFive() {
        for (int way = 0; way <= 2; way++) {
            int by = way;
            Orderlattice x = Made.withOrders("7+ 7- 7+ 7- 0+", "", "7+ 7- 7+ 7- 7+");
            x.fill(0, 12, 11, 15);
            Check.dueStays(x, "11: without steps all are alike, way " + way, 0, () -> x.sort(0, 1, by));
            Check.dueStays(x, "11: by five steps all are alike, way " + way, 0, () -> x.sort(0, 2, by));
            Check.due("11: the fifth step decides, way " + way, x.sort(0, 0, way), 12);
            Check.due("11: the row by the fifth step, way " + way, x.text(0),
                    "0.11 1.10 2.9 3.8 4.7 5.6 6.5 7.4 8.3 9.2 10.1 11.0");
            Check.dueStays(x, "11: an empty row without steps, way " + way, 0, () -> x.sort(1, 1, by));
        }
    }

    /** "if way is not 0 to 2" */
    private static void sortByEachWayAndNoOther() {
        Orderlattice x = Made.full();
        for (int way : new int[] {LEAST, -1, 3, GREATEST}) {
            Check.dueArgument(x, "11: way " + way, () -> x.sort(1, 0, way));
            Check.dueIndex(x, "11: row 3, way " + way, () -> x.sort(3, 0, way));
            Check.dueIndex(x, "11: order 4, way " + way, () -> x.sort(0, 4, way));
        }
        Orderlattice empty = new Orderlattice();
        Check.dueArgument(empty, "11: way 3 of an empty row", () -> empty.sort(0, 0, 3));
    }

    // ---- 12: sortPart

    private static void sortPartOfNoneAndOne() {
        Orderlattice x = Made.withRowAndOrder("0+", 4, 3, 2, 1);
        for (int place = 0; place <= 4; place++) {
            int at = place;
            Check.dueStays(x, "12: none at place " + place, 0, () -> x.sortPart(0, 0, at, at));
            if (place < 4) {
                Check.dueStays(x, "12: one at place " + place, 0, () -> x.sortPart(0, 0, at, at + 1));
            }
        }
    }

    /** "The THINGS of the PLACES from to to - 1 are SORTED among themselves; the others stay." */
    private static void sortPartLeavesTheOthers() {
        String[] due = {"8.1 9.0 7.2 6.3 5.4", "9.0 7.2 8.1 6.3 5.4", "9.0 8.1 6.3 7.2 5.4", "9.0 8.1 7.2 5.4 6.3"};
        for (int from = 0; from <= 3; from++) {
            Orderlattice x = Made.withRowAndOrder("0+", 9, 8, 7, 6, 5);
            Check.due("12: two from place " + from, x.sortPart(0, 0, from, from + 2), 2);
            Check.due("12: the row with two sorted from place " + from, x.text(0), due[from]);
        }
        Orderlattice x = Made.withRowAndOrder("0+", 9, 8, 7, 6, 5);
        Check.due("12: all but the first", x.sortPart(0, 0, 1, 5), 4);
        Check.due("12: the first stays", x.text(0), "9.0 5.4 6.3 7.2 8.1");
        Check.due("12: all but the last", x.sortPart(0, 0, 0, 4), 4);
        Check.due("12: the last stays", x.text(0), "5.4 6.3 7.2 9.0 8.1");
        Check.due("12: all", x.sortPart(0, 0, 0, 5), 2);
        Check.due("12: all are sorted", x.text(0), "5.4 6.3 7.2 8.1 9.0");
    }

    private static void sortPartOfAlikeOnes() {
        Orderlattice x = Made.withRowAndOrder("3-", 2, 4, 1, 6, 3, 8, 5);
        Check.due("12: alike ones keep their sequence", x.sortPart(0, 0, 1, 6), 4);
        Check.due("12: the row", x.text(0), "2.0 1.2 3.4 4.1 6.3 8.5 5.6");
        Check.dueStays(x, "12: without steps", 0, () -> x.sortPart(0, 1, 0, 7));
        Orderlattice like = Made.withRowAndOrder("0+", 5, 5, 0);
        Check.due("12: things count, not values", like.sortPart(0, 0, 0, 3), 3);
    }

    /** "if from is above to" */
    private static void sortPartFromAboveTo() {
        Orderlattice x = Made.withRowAndOrder("0+", 3, 2, 1);
        Check.dueArgument(x, "12: from 1 to 0", () -> x.sortPart(0, 0, 1, 0));
        Check.dueArgument(x, "12: from 3 to 0", () -> x.sortPart(0, 0, 3, 0));
        Check.dueArgument(x, "12: from 3 to 2", () -> x.sortPart(0, 0, 3, 2));
        Check.dueIndex(x, "12: from 4 to 3", () -> x.sortPart(0, 0, 4, 3));
        Check.dueIndex(x, "12: from 0 to -1", () -> x.sortPart(0, 0, 0, -1));
        Check.dueIndex(x, "12: from 4 to -1", () -> x.sortPart(0, 0, 4, -1));
        Check.dueIndex(x, "12: row 3, from 1 to 0", () -> x.sortPart(3, 0, 1, 0));
        Check.dueIndex(x, "12: order 4, from 1 to 0", () -> x.sortPart(0, 4, 1, 0));
        Check.dueIndex(x, "12: an empty row, from 1 to 0", () -> x.sortPart(1, 0, 1, 0));
    }

    /** "from or to is not 0 to how many THINGS it has" */
    private static void sortPartOfEachPlaceAndNoOther() {
        Orderlattice x = Made.withRowAndOrder("0+", 3, 2, 1);
        for (int place : new int[] {LEAST, -1, 4, 12, GREATEST}) {
            Check.dueIndex(x, "12: from " + place + " of three", () -> x.sortPart(0, 0, place, 3));
            Check.dueIndex(x, "12: to " + place + " of three", () -> x.sortPart(0, 0, 0, place));
            Check.dueIndex(x, "12: from and to " + place + " of three", () -> x.sortPart(0, 0, place, place));
        }
    }

    private static void sortPartOfEmptyAndFull() {
        Orderlattice x = Made.withOrders("0+");
        Check.dueStays(x, "12: an empty row", 0, () -> x.sortPart(0, 0, 0, 0));
        Check.dueIndex(x, "12: to 1 of an empty row", () -> x.sortPart(0, 0, 0, 1));
        Check.dueIndex(x, "12: from 1 of an empty row", () -> x.sortPart(0, 0, 1, 1));
        x.fill(0, 12, 11, 15);
        Check.dueStays(x, "12: none behind twelve", 0, () -> x.sortPart(0, 0, 12, 12));
        Check.dueIndex(x, "12: to 13 of twelve", () -> x.sortPart(0, 0, 0, 13));
        Check.due("12: the last two of twelve", x.sortPart(0, 0, 10, 12), 2);
        Check.due("12: their places", x.text(0), "11.0 10.1 9.2 8.3 7.4 6.5 5.6 4.7 3.8 2.9 0.11 1.10");
        Check.due("12: all twelve", x.sortPart(0, 0, 0, 12), 12);
        Check.due("12: sorted", x.isSorted(0, 0), true);
    }

    // ---- 13: isSorted

    private static void isSortedOfNoneAndOne() {
        Orderlattice x = Made.withOrders("0+", "0-", "", "7+ 7- 7+ 7- 0+");
        for (int order = 0; order <= 3; order++) {
            int by = order;
            Check.dueStays(x, "13: none by order " + order, true, () -> x.isSorted(0, by));
        }
        x.put(0, 15);
        for (int order = 0; order <= 3; order++) {
            int by = order;
            Check.dueStays(x, "13: one by order " + order, true, () -> x.isSorted(0, by));
        }
        x.put(0, 0);
        boolean[] due = {false, true, true, false};
        for (int order = 0; order <= 3; order++) {
            Check.due("13: two by order " + order, x.isSorted(0, order), due[order]);
        }
    }

    /** "of no two neighbours the second one is AHEAD of the first one": the first and the last two among them. */
    private static void isSortedOfEachPair() {
        for (int size = 2; size <= 12; size++) {
            Orderlattice x = Made.withOrders("0+", "0-");
            x.fill(0, size, 0, 1);
            Check.due("13: " + size + " in sequence", x.isSorted(0, 0), true);
            for (int place = 0; place + 1 < size; place++) {
                x.swap(0, place, place + 1);
                Check.due("13: of " + size + " those of place " + place + " and the next one are not",
                        x.isSorted(0, 0), false);
                x.swap(0, place, place + 1);
            }
            x.turnRow(0);
            Check.due("13: " + size + " turned", x.isSorted(0, 0), false);
            Check.due("13: " + size + " turned, DOWN", x.isSorted(0, 1), true);
        }
    }

    private static void isSortedOfAlikeNeighbours() {
        Orderlattice x = Made.withRowAndOrder("1+", 3, 0, 2, 1, 7, 4, 12, 15);
        Check.due("13: alike neighbours in any sequence", x.isSorted(0, 0), true);
        x.turnRow(0);
        Check.due("13: not when turned", x.isSorted(0, 0), false);
        x.turn(0);
        Check.due("13: but then by the turned order", x.isSorted(0, 0), true);
        x.fill(1, 12, 6, 0);
        Check.due("13: twelve with like values", x.isSorted(1, 0), true);
    }

    /** "if there is no such ROW or ORDER" */
    private static void noSuchRowOrOrder() {
        for (int row : NO_ROWS) {
            Orderlattice x = Made.inUse();
            Check.dueIndex(x, "11: row " + row, () -> x.sort(row, 0, 0));
            Check.dueIndex(x, "12: row " + row, () -> x.sortPart(row, 0, 0, 0));
            Check.dueIndex(x, "13: row " + row, () -> x.isSorted(row, 0));
        }
        for (int order : NO_ORDERS) {
            Orderlattice x = Made.inUse();
            Check.dueIndex(x, "11: order " + order, () -> x.sort(0, order, 0));
            Check.dueIndex(x, "12: order " + order, () -> x.sortPart(0, order, 0, 0));
            Check.dueIndex(x, "13: order " + order, () -> x.isSorted(0, order));
            Check.dueIndex(x, "13: order " + order + " of an empty row", () -> x.isSorted(1, order));
        }
    }
}
