/** Promises 1 to 10: a new object, and what changes rows. */
public final class RowsTest {
    public static void main(String[] args) {
        newObject();
        put();
        putAt();
        fill();
        fillOutOfBounds();
        drop();
        clear();
        copyRow();
        turnRow();
        wheel();
        swap();
        marksOfAllRows();
        Check.end();
    }

    private static void newObject() {
        Orderlattice x = new Orderlattice();
        Check.due("1: a new object's state", Check.state(x), "|||||||0 0 0 0 ");
        for (int what = 0; what <= 4; what++) {
            Check.due("1: house(" + what + ")", x.house(what), 0);
        }
        new Orderlattice().put(0, 1);
        Check.due("1: another object's thing", x.size(0), 0);
    }

    private static void put() {
        Orderlattice x = new Orderlattice();
        Check.due("2: the first mark", x.put(0, 15), 0);
        Check.due("2: the second mark", x.put(2, 0), 1);
        Check.due("2: the third mark", x.put(0, 3), 2);
        Check.due("2: behind the others", x.text(0), "15.0 3.2");
        Check.due("2: in the other row", x.text(2), "0.1");
        Check.dueIndex(x, "2: row -1", () -> x.put(-1, 0));
        Check.dueIndex(x, "2: row 3, ahead of a wrong value", () -> x.put(3, 16));
        Check.dueArgument(x, "2: value -1", () -> x.put(0, -1));
        Check.dueArgument(x, "2: value 16", () -> x.put(0, 16));
        for (int i = 2; i < 12; i++) {
            x.put(0, i);
        }
        Check.due("2: twelve", x.size(0), 12);
        Check.dueRefused(x, "2: a thirteenth", () -> x.put(0, 0));
        Check.dueArgument(x, "2: a wrong value in a full row", () -> x.put(0, 16));
        Check.due("2: refused ones are not counted as put", x.put(1, 4), 13);
    }

    private static void putAt() {
        Orderlattice x = new Orderlattice();
        Check.due("3: into an empty row", x.putAt(1, 0, 5), 0);
        Check.due("3: ahead of the first", x.putAt(1, 0, 6), 1);
        Check.due("3: behind all", x.putAt(1, 2, 7), 2);
        Check.due("3: in the midst", x.putAt(1, 1, 8), 3);
        Check.due("3: the row", x.text(1), "6.1 8.3 5.0 7.2");
        Check.dueIndex(x, "3: row 3", () -> x.putAt(3, 0, 0));
        Check.dueIndex(x, "3: row -1", () -> x.putAt(-1, 0, 0));
        Check.dueIndex(x, "3: place -1", () -> x.putAt(1, -1, 0));
        Check.dueIndex(x, "3: place 5 of 4, ahead of a wrong value", () -> x.putAt(1, 5, 16));
        Check.dueArgument(x, "3: value 16", () -> x.putAt(1, 4, 16));
        Check.dueArgument(x, "3: value -1", () -> x.putAt(1, 0, -1));
        x.fill(1, 8, 0, 0);
        Check.dueRefused(x, "3: a thirteenth", () -> x.putAt(1, 12, 0));
        Check.dueRefused(x, "3: a thirteenth in front", () -> x.putAt(1, 0, 0));
        Check.dueIndex(x, "3: a wrong place of a full row", () -> x.putAt(1, 13, 0));
        Check.dueArgument(x, "3: a wrong value in a full row", () -> x.putAt(1, 0, 16));
        x.drop(1, 11);
        Check.due("3: the mark after those refused", x.putAt(1, 0, 1), 12);
    }

    private static void fill() {
        Orderlattice x = new Orderlattice();
        Check.due("4: none", x.fill(0, 0, 3, 3), 0);
        Check.due("4: three", x.fill(0, 3, 99, 99), 3);
        Check.due("4: modulo 16", x.text(0), "3.0 6.1 9.2");
        Check.due("4: behind the others", x.fill(0, 2, 15, 1), 5);
        Check.due("4: round and round", x.text(0), "3.0 6.1 9.2 15.3 0.4");
        Check.due("4: by 0", x.fill(1, 12, 7, 0), 12);
        Check.due("4: twelve alike", x.text(1),
                "7.5 7.6 7.7 7.8 7.9 7.10 7.11 7.12 7.13 7.14 7.15 7.16");
        Check.due("4: none to a full row", x.fill(1, 0, 0, 0), 12);
        Check.dueRefused(x, "4: one more than twelve", () -> x.fill(1, 1, 0, 0));
        Check.dueRefused(x, "4: eight to five", () -> x.fill(0, 8, 0, 0));
        Check.due("4: seven to five", x.fill(0, 7, 1, 20), 12);
        Check.due("4: the row then", x.text(0), "3.0 6.1 9.2 15.3 0.4 1.17 5.18 9.19 13.20 1.21 5.22 9.23");
        Check.due("4: all counted", x.house(2), 24);
    }

    private static void fillOutOfBounds() {
        Orderlattice x = new Orderlattice();
        Check.dueIndex(x, "4: row 3, ahead of wrong numbers", () -> x.fill(3, 13, 100, 100));
        Check.dueIndex(x, "4: row -1", () -> x.fill(-1, 1, 0, 0));
        Check.dueArgument(x, "4: many -1", () -> x.fill(0, -1, 0, 0));
        Check.dueArgument(x, "4: many 13", () -> x.fill(0, 13, 0, 0));
        Check.dueArgument(x, "4: many beyond all", () -> x.fill(0, Integer.MAX_VALUE, 0, 0));
        Check.dueArgument(x, "4: from -1", () -> x.fill(0, 1, -1, 0));
        Check.dueArgument(x, "4: from 100", () -> x.fill(0, 1, 100, 0));
        Check.dueArgument(x, "4: by -1", () -> x.fill(0, 1, 0, -1));
        Check.dueArgument(x, "4: by 100", () -> x.fill(0, 1, 0, 100));
        x.fill(0, 12, 0, 1);
        Check.dueArgument(x, "4: a wrong number to a full row", () -> x.fill(0, 1, 0, 100));
    }

    private static void drop() {
        Orderlattice x = new Orderlattice();
        x.fill(0, 4, 10, 1);
        Check.due("5: in the midst", x.drop(0, 1), 1);
        Check.due("5: those behind it move up", x.text(0), "10.0 12.2 13.3");
        Check.due("5: the last", x.drop(0, 2), 3);
        Check.due("5: the first", x.drop(0, 0), 0);
        Check.due("5: one is left", x.text(0), "12.2");
        Check.dueIndex(x, "5: place 1 of 1", () -> x.drop(0, 1));
        Check.dueIndex(x, "5: place -1", () -> x.drop(0, -1));
        Check.dueIndex(x, "5: row 3", () -> x.drop(3, 0));
        Check.dueIndex(x, "5: row -1", () -> x.drop(-1, 0));
        Check.dueIndex(x, "5: an empty row", () -> x.drop(1, 0));
        Check.due("5: marks go on", x.put(0, 0), 4);
    }

    private static void clear() {
        Orderlattice x = new Orderlattice();
        x.fill(2, 5, 1, 1);
        x.fill(1, 2, 1, 1);
        Check.due("6: five", x.clear(2), 5);
        Check.due("6: none left", x.text(2), "");
        Check.due("6: the other row stays", x.text(1), "1.5 2.6");
        Check.due("6: none", x.clear(2), 0);
        Check.due("6: marks go on", x.put(2, 9), 7);
        Check.dueIndex(x, "6: row 3", () -> x.clear(3));
        Check.dueIndex(x, "6: row -1", () -> x.clear(-1));
    }

    private static void copyRow() {
        Orderlattice x = new Orderlattice();
        x.fill(0, 3, 4, 5);
        x.fill(1, 7, 0, 0);
        Check.due("7: three", x.copyRow(0, 1), 3);
        Check.due("7: marks, too", x.text(1), "4.0 9.1 14.2");
        Check.due("7: onto itself", x.copyRow(1, 1), 3);
        Check.due("7: itself stays", x.text(1), "4.0 9.1 14.2");
        x.put(1, 1);
        x.swap(1, 0, 1);
        Check.due("7: the other one is its own", x.text(0), "4.0 9.1 14.2");
        Check.due("7: copied ones are not counted as put", x.house(2), 11);
        Check.due("7: none", x.copyRow(2, 1), 0);
        Check.due("7: an empty row", x.text(1), "");
        Check.dueIndex(x, "7: from 3", () -> x.copyRow(3, 0));
        Check.dueIndex(x, "7: from -1", () -> x.copyRow(-1, 0));
        Check.dueIndex(x, "7: into 3", () -> x.copyRow(0, 3));
        Check.dueIndex(x, "7: into -1", () -> x.copyRow(0, -1));
    }

    private static void turnRow() {
        Orderlattice x = new Orderlattice();
        Check.due("8: none", x.turnRow(0), 0);
        x.put(0, 1);
        Check.due("8: one", x.turnRow(0), 0);
        x.put(0, 1);
        Check.due("8: two with like values", x.turnRow(0), 2);
        Check.due("8: two turned", x.text(0), "1.1 1.0");
        x.put(0, 7);
        Check.due("8: three", x.turnRow(0), 2);
        Check.due("8: three turned", x.text(0), "7.2 1.0 1.1");
        x.fill(0, 9, 2, 1);
        Check.due("8: twelve", x.turnRow(0), 12);
        Check.due("8: twelve turned", x.text(0),
                "10.11 9.10 8.9 7.8 6.7 5.6 4.5 3.4 2.3 1.1 1.0 7.2");
        Check.dueIndex(x, "8: row 3", () -> x.turnRow(3));
        Check.dueIndex(x, "8: row -1", () -> x.turnRow(-1));
    }

    private static void wheel() {
        Orderlattice x = new Orderlattice();
        Check.due("9: none", x.wheel(0, 5), -1);
        x.fill(0, 5, 0, 1);
        Check.due("9: one on", x.wheel(0, 1), 4);
        Check.due("9: each one on", x.text(0), "4.4 0.0 1.1 2.2 3.3");
        Check.due("9: two back", x.wheel(0, -2), 1);
        Check.due("9: each two back", x.text(0), "1.1 2.2 3.3 4.4 0.0");
        Check.due("9: by 0", x.wheel(0, 0), 1);
        Check.due("9: once round", x.wheel(0, 5), 1);
        Check.due("9: once round back", x.wheel(0, -5), 1);
        Check.due("9: more than once round", x.wheel(0, 12), 4);
        Check.due("9: the row then", x.text(0), "4.4 0.0 1.1 2.2 3.3");
        // The greatest number is 2 modulo 5, the smallest one as well.
        Check.due("9: the greatest number", x.wheel(0, Integer.MAX_VALUE), 2);
        Check.due("9: the row after the greatest", x.text(0), "2.2 3.3 4.4 0.0 1.1");
        Check.due("9: the smallest number", x.wheel(0, Integer.MIN_VALUE), 0);
        Check.due("9: the row after the smallest", x.text(0), "0.0 1.1 2.2 3.3 4.4");
        Check.dueIndex(x, "9: row 3", () -> x.wheel(3, 1));
        Check.dueIndex(x, "9: row -1", () -> x.wheel(-1, 1));
    }

    private static void swap() {
        Orderlattice x = new Orderlattice();
        x.fill(0, 4, 3, 8);
        Check.due("10: unlike values", x.swap(0, 0, 3), 1);
        Check.due("10: changed", x.text(0), "11.3 11.1 3.2 3.0");
        Check.due("10: like values", x.swap(0, 2, 3), 0);
        Check.due("10: like ones change, too", x.text(0), "11.3 11.1 3.0 3.2");
        Check.due("10: one with itself", x.swap(0, 1, 1), 0);
        Check.due("10: stays", x.text(0), "11.3 11.1 3.0 3.2");
        Check.dueIndex(x, "10: one 4", () -> x.swap(0, 4, 0));
        Check.dueIndex(x, "10: one -1", () -> x.swap(0, -1, 0));
        Check.dueIndex(x, "10: other 4", () -> x.swap(0, 0, 4));
        Check.dueIndex(x, "10: other -1", () -> x.swap(0, 0, -1));
        Check.dueIndex(x, "10: row 3", () -> x.swap(3, 0, 0));
        Check.dueIndex(x, "10: row -1", () -> x.swap(-1, 0, 0));
        Check.dueIndex(x, "10: an empty row", () -> x.swap(1, 0, 0));
    }

    private static void marksOfAllRows() {
        Orderlattice x = new Orderlattice();
        x.put(0, 0);
        x.fill(1, 3, 0, 1);
        x.putAt(2, 0, 7);
        x.clear(1);
        x.copyRow(2, 1);
        Check.due("2: how many were put or filled in all rows", x.put(1, 8), 5);
        Check.due("2: the row", x.text(1), "7.4 8.5");
    }
}
