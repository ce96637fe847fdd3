/** Promises 11 to 13: sorting. */
public final class SortingTest {
    public static void main(String[] args) {
        sort();
        sortWithoutSteps();
        sortOutOfBounds();
        waysComeToTheSame();
        sortPart();
        sortPartOutOfBounds();
        isSorted();
        Check.end();
    }

    private static void sort() {
        for (int way = 0; way <= 2; way++) {
            Orderlattice x = new Orderlattice();
            x.step(1, 1, false);
            Check.due("11: none, way " + way, x.sort(0, 1, way), 0);
            // 9 4 15 10 5 0: their quarters are 2 1 3 2 1 0.
            x.fill(0, 6, 9, 11);
            Check.due("11: moved, way " + way, x.sort(0, 1, way), 5);
            Check.due("11: up, way " + way, x.text(0), "0.5 4.1 5.4 9.0 10.3 15.2");
            Check.due("11: sorted stays, way " + way, x.sort(0, 1, way), 0);
            x.turn(1);
            Check.due("11: moved back, way " + way, x.sort(0, 1, way), 6);
            Check.due("11: down, alike ones as they stood, way " + way, x.text(0),
                    "15.2 9.0 10.3 4.1 5.4 0.5");
            x.step(1, 0, true);
            Check.due("11: by two steps, way " + way, x.sort(0, 1, way), 4);
            Check.due("11: down by both, way " + way, x.text(0), "15.2 10.3 9.0 5.4 4.1 0.5");
            Check.due("11: nothing is refused", x.house(3), 0);
        }
    }

    private static void sortWithoutSteps() {
        for (int way = 0; way <= 2; way++) {
            Orderlattice x = new Orderlattice();
            x.fill(2, 12, 5, 7);
            String before = x.text(2);
            Check.due("11: all alike, way " + way, x.sort(2, 3, way), 0);
            Check.due("11: all stay, way " + way, x.text(2), before);
            x.step(3, 7, true);
            Check.due("11: all alike by key 7, way " + way, x.sort(2, 3, way), 0);
            Check.due("11: all stay by key 7, way " + way, x.text(2), before);
        }
    }

    private static void sortOutOfBounds() {
        Orderlattice x = new Orderlattice();
        x.fill(0, 3, 9, 15);
        x.step(0, 0, false);
        Check.dueIndex(x, "11: row 3, ahead of a wrong way", () -> x.sort(3, 0, 3));
        Check.dueIndex(x, "11: row -1", () -> x.sort(-1, 0, 0));
        Check.dueIndex(x, "11: order 4, ahead of a wrong way", () -> x.sort(0, 4, -1));
        Check.dueIndex(x, "11: order -1", () -> x.sort(0, -1, 0));
        Check.dueArgument(x, "11: way 3", () -> x.sort(0, 0, 3));
        Check.dueArgument(x, "11: way -1", () -> x.sort(0, 0, -1));
        Check.due("11: the row stayed", x.text(0), "9.0 8.1 7.2");
    }

    private static void waysComeToTheSame() {
        for (int key = 0; key < 8; key++) {
            for (int by = 0; by < 24; by++) {
                Orderlattice x = new Orderlattice();
                x.step(0, key, by % 2 == 0);
                x.fill(0, by % 13, by, by);
                x.copyRow(0, 1);
                x.copyRow(0, 2);
                int moved = x.sort(0, 0, 0);
                Check.due("11: way 1 moves as way 0", x.sort(1, 0, 1), moved);
                Check.due("11: way 2 moves as way 0", x.sort(2, 0, 2), moved);
                Check.due("11: way 1 sorts as way 0", x.text(1), x.text(0));
                Check.due("11: way 2 sorts as way 0", x.text(2), x.text(0));
                Check.due("11: sorted is in sequence", x.isSorted(0, 0), true);
            }
        }
    }

    private static void sortPart() {
        Orderlattice x = new Orderlattice();
        x.step(0, 3, false);
        x.fill(0, 8, 7, 15);
        Check.due("12: before", x.text(0), "7.0 6.1 5.2 4.3 3.4 2.5 1.6 0.7");
        Check.due("12: the midst", x.sortPart(0, 0, 2, 6), 4);
        Check.due("12: the others stay", x.text(0), "7.0 6.1 4.3 2.5 5.2 3.4 1.6 0.7");
        Check.due("12: once more", x.sortPart(0, 0, 2, 6), 0);
        Check.due("12: none of them", x.sortPart(0, 0, 3, 3), 0);
        Check.due("12: none behind all", x.sortPart(0, 0, 8, 8), 0);
        Check.due("12: one", x.sortPart(0, 0, 0, 1), 0);
        Check.due("12: the first two", x.sortPart(0, 0, 0, 2), 2);
        Check.due("12: the first two changed", x.text(0), "6.1 7.0 4.3 2.5 5.2 3.4 1.6 0.7");
        Check.due("12: the last two", x.sortPart(0, 0, 6, 8), 2);
        Check.due("12: all", x.sortPart(0, 0, 0, 8), 6);
        Check.due("12: all sorted", x.text(0), "6.1 4.3 2.5 0.7 7.0 5.2 3.4 1.6");
        Check.due("12: an empty row", x.sortPart(1, 0, 0, 0), 0);
    }

    private static void sortPartOutOfBounds() {
        Orderlattice x = new Orderlattice();
        x.step(0, 0, false);
        x.fill(0, 3, 9, 15);
        Check.dueIndex(x, "12: row 3, ahead of from above to", () -> x.sortPart(3, 0, 2, 1));
        Check.dueIndex(x, "12: row -1", () -> x.sortPart(-1, 0, 0, 0));
        Check.dueIndex(x, "12: order 4, ahead of from above to", () -> x.sortPart(0, 4, 2, 1));
        Check.dueIndex(x, "12: order -1", () -> x.sortPart(0, -1, 0, 0));
        Check.dueIndex(x, "12: from 4, ahead of from above to", () -> x.sortPart(0, 0, 4, 1));
        Check.dueIndex(x, "12: from -1", () -> x.sortPart(0, 0, -1, 1));
        Check.dueIndex(x, "12: to 4", () -> x.sortPart(0, 0, 0, 4));
        Check.dueIndex(x, "12: to -1, ahead of from above to", () -> x.sortPart(0, 0, 0, -1));
        Check.dueArgument(x, "12: from above to", () -> x.sortPart(0, 0, 3, 2));
        Check.due("12: the row stayed", x.text(0), "9.0 8.1 7.2");
    }

    private static void isSorted() {
        Orderlattice x = new Orderlattice();
        x.step(0, 4, false);
        Check.due("13: none", x.isSorted(0, 0), true);
        x.put(0, 1);
        Check.due("13: one", x.isSorted(0, 0), true);
        x.put(0, 4);
        Check.due("13: alike ones", x.isSorted(0, 0), true);
        x.put(0, 2);
        Check.due("13: one more behind", x.isSorted(0, 0), true);
        x.put(0, 3);
        Check.due("13: the last one is ahead", x.isSorted(0, 0), false);
        Check.due("13: without steps", x.isSorted(0, 1), true);
        x.turn(0);
        Check.due("13: turned", x.isSorted(0, 0), false);
        x.turnRow(0);
        Check.due("13: the row turned, the last one still ahead", x.isSorted(0, 0), false);
        x.drop(0, 0);
        Check.due("13: the row turned", x.isSorted(0, 0), true);
        Check.dueIndex(x, "13: row 3", () -> x.isSorted(3, 0));
        Check.dueIndex(x, "13: row -1", () -> x.isSorted(-1, 0));
        Check.dueIndex(x, "13: order 4", () -> x.isSorted(0, 4));
        Check.dueIndex(x, "13: order -1", () -> x.isSorted(0, -1));
    }
}
