/** The sentences of promises 1 to 10 that name a boundary case, each with a test of its own. */
public final class RowEdgesTest {
    private static final int LEAST = Integer.MIN_VALUE;
    private static final int GREATEST = Integer.MAX_VALUE;
    private static final int[] NO_ROWS = {LEAST, -1, 3, GREATEST};
    private static final int[] NO_VALUES = {LEAST, -1, 16, GREATEST};

    public static void main(String[] args) {
        rowsAreEmptyAtFirst();
        ordersAreWithoutStepsAtFirst();
        countsAreNoneAtFirst();
        eachObjectIsItsOwn();
        putIsRefusedIfThereAreTwelve();
        putTakesEachValueAndNoOther();
        putThrowsAheadOfRefused();
        marksCountThingsOfAllRows();
        marksCountNothingElse();
        putAtGoesToEachGapAndNoOther();
        putAtIsRefusedIfThereAreTwelve();
        fillIsRefusedAboveTwelve();
        fillOfNone();
        fillIsModuloSixteen();
        fillTakesEachNumberAndNoOther();
        fillThrowsAheadOfRefused();
        dropOfEachPlaceAndNoOther();
        dropOfTheOnlyOneAndOfFull();
        clearOfEmptyAndFull();
        copyRowOntoItself();
        copyRowOfEmptyAndFull();
        copyRowCountsNothing();
        turnRowOfEachSize();
        turnRowOfAlikeOnes();
        wheelOfAnyNumber();
        wheelWithoutAny();
        swapOfOnePlaceWithItself();
        swapOfLikeAndUnlikeValues();
        swapOfEachPlaceAndNoOther();
        noSuchRow();
        Check.end();
    }

    // ---- 1: "Creates empty ROWS and ORDERS without STEPS."

    private static void rowsAreEmptyAtFirst() {
        Orderlattice x = new Orderlattice();
        for (int row = 0; row <= 2; row++) {
            Check.due("1: size of row " + row, x.size(row), 0);
            Check.due("1: text of row " + row, x.text(row), "");
            Check.due("1: kinds of row " + row, x.kinds(row, row), 0);
            Check.due("1: isSorted of row " + row, x.isSorted(row, row), true);
            Check.due("1: clear of row " + row, x.clear(row), 0);
        }
        Check.dueIndex(x, "1: no place 0", () -> x.markAt(0, 0));
        Check.due("1: digest of a new object", new Orderlattice().digest(), -3738931094959723649L);
    }

    private static void ordersAreWithoutStepsAtFirst() {
        Orderlattice x = new Orderlattice();
        for (int order = 0; order <= 3; order++) {
            int of = order;
            Check.due("1: text of order " + order, x.orderText(order), "");
            Check.due("1: classes of order " + order, x.classes(order), 1);
            Check.due("1: rank of 15 by order " + order, x.rank(order, 15), 0);
            Check.due("1: wipe of order " + order, x.wipe(order), 0);
            Check.dueRefused(x, "1: unstep of order " + order, () -> x.unstep(of));
        }
    }

    private static void countsAreNoneAtFirst() {
        Orderlattice x = new Orderlattice();
        for (int what = 0; what <= 4; what++) {
            Check.due("1: house(" + what + ") of a new object", x.house(what), 0);
        }
        Check.due("1: the first mark", x.put(2, 0), 0);
        Check.due("1: the first knock", x.knock(), 1);
    }

    private static void eachObjectIsItsOwn() {
        Orderlattice full = Made.full();
        full.knock();
        full.put(0, 0);
        Orderlattice x = new Orderlattice();
        Check.due("1: digest of one made behind a full one", x.digest(), -3738931094959723649L);
        long before = full.digest();
        Made.put(x, 0, 1, 2, 3);
        Made.step(x, 0, "0+");
        x.knock();
        Check.due("1: digest of the full one behind calls of the other", full.digest(), before);
    }

    // ---- 2: put

    /** "REFUSED if there are 12." */
    private static void putIsRefusedIfThereAreTwelve() {
        for (int row = 0; row <= 2; row++) {
            int of = row;
            Orderlattice x = new Orderlattice();
            for (int i = 0; i < 12; i++) {
                Check.due("2: thing " + i + " of row " + row, x.put(row, i), i);
            }
            Check.due("2: size of the full row " + row, x.size(row), 12);
            Check.dueRefused(x, "2: a thirteenth to row " + row, () -> x.put(of, 0));
            Check.dueRefused(x, "2: a thirteenth to row " + row + " once more", () -> x.put(of, 15));
            Check.due("2: the other row is not full", x.put((row + 1) % 3, 5), 12);
            Check.due("2: one goes from the full row " + row, x.drop(row, 0), 0);
            Check.due("2: the twelfth again", x.put(row, 15), 13);
            Check.dueRefused(x, "2: a thirteenth again to row " + row, () -> x.put(of, 0));
        }
    }

    /** "if value is not 0 to 15" */
    private static void putTakesEachValueAndNoOther() {
        Orderlattice x = new Orderlattice();
        for (int value = 0; value <= 15; value++) {
            x.put(value / 6, value);
            Check.due("2: value " + value, x.valueAt(value / 6, value % 6), value);
        }
        for (int value : NO_VALUES) {
            Check.dueArgument(x, "2: put of value " + value, () -> x.put(2, value));
            Check.dueArgument(x, "3: putAt of value " + value, () -> x.putAt(2, 0, value));
        }
    }

    private static void putThrowsAheadOfRefused() {
        Orderlattice x = Made.full();
        Check.dueArgument(x, "2: value 16 to a full row", () -> x.put(0, 16));
        Check.dueArgument(x, "2: value -1 to a full row", () -> x.put(0, -1));
        Check.dueIndex(x, "2: row 3 of a full one, value 16", () -> x.put(3, 16));
        Check.dueIndex(x, "3: place 13 of a full row, value 16", () -> x.putAt(0, 13, 16));
        Check.dueIndex(x, "3: place -1 of a full row", () -> x.putAt(0, -1, 0));
        Check.dueArgument(x, "3: value 16 to a full row", () -> x.putAt(0, 12, 16));
    }

    /** "A MARK: how many were put (also by putAt()) or filled ever ahead of it, in all ROWS." */
    private static void marksCountThingsOfAllRows() {
        Orderlattice x = new Orderlattice();
        Check.due("2: put", x.put(0, 3), 0);
        Check.due("2: putAt of another row", x.putAt(1, 0, 3), 1);
        Check.due("2: fill of a third row", x.fill(2, 3, 0, 1), 3);
        Check.due("2: fill of the first row", x.fill(0, 2, 0, 1), 3);
        Check.due("2: put behind them", x.put(1, 3), 7);
        Check.due("2: row 0", x.text(0), "3.0 0.5 1.6");
        Check.due("2: row 1", x.text(1), "3.1 3.7");
        Check.due("2: row 2", x.text(2), "0.2 1.3 2.4");
        Check.due("2: how many were put or filled ever", x.house(2), 8);
    }

    private static void marksCountNothingElse() {
        Orderlattice x = Made.withRowAndOrder("0+", 3, 2, 1);
        x.fill(1, 12, 0, 1);
        Check.due("2: fifteen were put or filled", x.house(2), 15);
        x.drop(0, 1);
        x.clear(2);
        x.copyRow(0, 2);
        x.sort(0, 0, 0);
        x.fill(2, 0, 5, 5);
        x.put(1, 0);
        x.putAt(1, 12, 0);
        x.fill(1, 1, 0, 0);
        x.fill(0, 11, 0, 0);
        Check.dueArgument(x, "2: put of value 16", () -> x.put(0, 16));
        Check.due("2: fifteen still", x.house(2), 15);
        x.clear(1);
        Check.due("2: the mark behind all of that", x.put(1, 0), 15);
    }

    // ---- 3: putAt

    /** "place is not 0 to how many it has"; "how many it has: behind all" */
    private static void putAtGoesToEachGapAndNoOther() {
        String[] due = {"9.3 5.0 6.1 7.2", "5.0 9.3 6.1 7.2", "5.0 6.1 9.3 7.2", "5.0 6.1 7.2 9.3"};
        for (int place = 0; place <= 3; place++) {
            Orderlattice x = Made.withRow(5, 6, 7);
            Check.due("3: its mark at place " + place, x.putAt(0, place, 9), 3);
            Check.due("3: the row with one more at place " + place, x.text(0), due[place]);
        }
        Orderlattice x = Made.withRow(5, 6, 7);
        for (int place : new int[] {LEAST, -1, 4, 12, 13, GREATEST}) {
            Check.dueIndex(x, "3: place " + place + " of three", () -> x.putAt(0, place, 9));
        }
        for (int place : new int[] {LEAST, -1, 1, GREATEST}) {
            Check.dueIndex(x, "3: place " + place + " of none", () -> x.putAt(1, place, 9));
        }
        Check.due("3: place 0 of none", x.putAt(1, 0, 9), 3);
    }

    /** "REFUSED if there are 12." */
    private static void putAtIsRefusedIfThereAreTwelve() {
        Orderlattice x = new Orderlattice();
        x.fill(0, 11, 0, 1);
        Check.due("3: the twelfth ahead of all", x.putAt(0, 0, 15), 11);
        Check.due("3: all twelve", x.text(0), "15.11 0.0 1.1 2.2 3.3 4.4 5.5 6.6 7.7 8.8 9.9 10.10");
        for (int place : new int[] {0, 1, 11, 12}) {
            Check.dueRefused(x, "3: a thirteenth at place " + place, () -> x.putAt(0, place, 0));
        }
        x.drop(0, 11);
        Check.due("3: the twelfth behind all", x.putAt(0, 11, 14), 12);
        Check.due("3: all twelve again", x.text(0), "15.11 0.0 1.1 2.2 3.3 4.4 5.5 6.6 7.7 8.8 9.9 14.12");
    }

    // ---- 4: fill

    /** "REFUSED if there would be more than 12." */
    private static void fillIsRefusedAboveTwelve() {
        for (int before = 0; before <= 12; before++) {
            int room = 12 - before;
            Orderlattice x = new Orderlattice();
            Check.due("4: " + before + " of none", x.fill(0, before, 0, 0), before);
            if (room < 12) {
                Check.dueRefused(x, "4: " + (room + 1) + " to " + before, () -> x.fill(0, room + 1, 0, 0));
                Check.dueRefused(x, "4: twelve to " + before, () -> x.fill(0, 12, 0, 0));
            }
            Check.due("4: refused, none of them came", x.size(0), before);
            Check.due("4: " + room + " to " + before, x.fill(0, room, 0, 0), 12);
            Check.due("4: twelve were filled", x.house(2), 12);
        }
    }

    /** "many is not 0 to 12": none are as good as any. */
    private static void fillOfNone() {
        Orderlattice x = new Orderlattice();
        Check.dueStays(x, "4: none to an empty row", 0, () -> x.fill(0, 0, 99, 99));
        x.fill(0, 12, 0, 0);
        Check.dueStays(x, "4: none to a full row", 12, () -> x.fill(0, 0, 0, 0));
        x.drop(0, 0);
        Check.dueStays(x, "4: none to eleven", 11, () -> x.fill(0, 0, 7, 7));
        Check.dueArgument(x, "4: none from 100", () -> x.fill(0, 0, 100, 0));
        Check.dueArgument(x, "4: none by 100", () -> x.fill(0, 0, 0, 100));
    }

    /** "with the VALUES from, from + by, from + 2 * by and so on, each modulo 16" */
    private static void fillIsModuloSixteen() {
        Orderlattice x = new Orderlattice();
        x.fill(0, 3, 15, 1);
        Check.due("4: 15, 16, 17", x.text(0), "15.0 0.1 1.2");
        x.fill(1, 12, 99, 99);
        Check.due("4: 99 by 99, up to 1188", x.text(1),
                "3.3 6.4 9.5 12.6 15.7 2.8 5.9 8.10 11.11 14.12 1.13 4.14");
        x.fill(2, 3, 16, 0);
        x.fill(2, 3, 0, 16);
        x.fill(2, 3, 14, 15);
        x.fill(2, 1, 31, 99);
        x.fill(2, 1, 32, 99);
        Check.due("4: 16 by 0, 0 by 16, 14 by 15, 31, 32", x.text(2),
                "0.15 0.16 0.17 0.18 0.19 0.20 14.21 13.22 12.23 15.24 0.25");
    }

    /** "if many is not 0 to 12, or from or by not 0 to 99" */
    private static void fillTakesEachNumberAndNoOther() {
        Orderlattice x = new Orderlattice();
        Check.due("4: from 99 by 0", x.fill(0, 1, 99, 0), 1);
        Check.due("4: from 0 by 99", x.fill(0, 2, 0, 99), 3);
        Check.due("4: the row", x.text(0), "3.0 0.1 3.2");
        for (int many : new int[] {LEAST, -1, 13, GREATEST}) {
            Check.dueArgument(x, "4: many " + many, () -> x.fill(1, many, 0, 0));
        }
        for (int number : new int[] {LEAST, -1, 100, GREATEST}) {
            Check.dueArgument(x, "4: from " + number, () -> x.fill(1, 1, number, 0));
            Check.dueArgument(x, "4: by " + number, () -> x.fill(1, 1, 0, number));
        }
    }

    private static void fillThrowsAheadOfRefused() {
        Orderlattice x = Made.full();
        Check.dueArgument(x, "4: 13 to a full row", () -> x.fill(0, 13, 0, 0));
        Check.dueArgument(x, "4: from 100 to a full row", () -> x.fill(0, 1, 100, 0));
        Check.dueArgument(x, "4: by -1 to a full row", () -> x.fill(0, 1, 0, -1));
        Check.dueIndex(x, "4: row 3, many 13, from 100, by 100", () -> x.fill(3, 13, 100, 100));
        Check.dueRefused(x, "4: one to a full row", () -> x.fill(0, 1, 99, 99));
    }

    // ---- 5: drop, 6: clear

    /** "A THING goes; those behind it move up."; "if there is no such ROW or PLACE" */
    private static void dropOfEachPlaceAndNoOther() {
        String[] due = {"6.1 7.2", "5.0 7.2", "5.0 6.1"};
        for (int place = 0; place <= 2; place++) {
            Orderlattice x = Made.withRow(5, 6, 7);
            Check.due("5: the mark of place " + place, x.drop(0, place), place);
            Check.due("5: the row without place " + place, x.text(0), due[place]);
            Check.dueIndex(x, "5: place 2 of two", () -> x.drop(0, 2));
        }
        Orderlattice x = Made.withRow(5, 6, 7);
        for (int place : new int[] {LEAST, -1, 3, 12, GREATEST}) {
            Check.dueIndex(x, "5: place " + place + " of three", () -> x.drop(0, place));
        }
        Check.dueIndex(x, "5: place 0 of none", () -> x.drop(1, 0));
    }

    private static void dropOfTheOnlyOneAndOfFull() {
        Orderlattice x = Made.withRow(8);
        Check.due("5: the only one", x.drop(0, 0), 0);
        Check.due("5: none is left", x.text(0), "");
        Check.dueIndex(x, "5: none once more", () -> x.drop(0, 0));
        x.fill(0, 12, 0, 1);
        Check.dueIndex(x, "5: place 12 of twelve", () -> x.drop(0, 12));
        Check.due("5: the last of twelve", x.drop(0, 11), 12);
        Check.due("5: the first of eleven", x.drop(0, 0), 1);
        Check.due("5: ten are left", x.text(0), "1.2 2.3 3.4 4.5 5.6 6.7 7.8 8.9 9.10 10.11");
    }

    private static void clearOfEmptyAndFull() {
        Orderlattice x = Made.full();
        Check.due("6: a full row", x.clear(1), 12);
        Check.due("6: none is left", x.text(1), "");
        Check.due("6: the others stay", x.house(0), 24);
        Check.due("6: how many were put stays", x.house(2), 36);
        Check.dueStays(x, "6: an empty row", 0, () -> x.clear(1));
        Check.due("6: twelve more", x.fill(1, 12, 0, 0), 12);
        Check.due("6: the mark behind that", x.markAt(1, 0), 36);
        Orderlattice one = Made.withRow(4);
        Check.due("6: one", one.clear(0), 1);
    }

    // ---- 7: copyRow

    /** "the ROW, or the same" */
    private static void copyRowOntoItself() {
        Orderlattice x = Made.full();
        x.clear(1);
        Check.dueStays(x, "7: a full row onto itself", 12, () -> x.copyRow(2, 2));
        Check.dueStays(x, "7: an empty row onto itself", 0, () -> x.copyRow(1, 1));
    }

    /** "A ROW becomes as another one is (MARKS, too)." */
    private static void copyRowOfEmptyAndFull() {
        Orderlattice x = Made.full();
        String full = x.text(2);
        Check.due("7: full onto full", x.copyRow(2, 0), 12);
        Check.due("7: full onto full, the row", x.text(0), full);
        x.clear(1);
        Check.due("7: full onto empty", x.copyRow(0, 1), 12);
        Check.due("7: full onto empty, the row", x.text(1), full);
        Check.dueRefused(x, "7: the copy is full", () -> x.put(1, 0));
        x.clear(2);
        Check.due("7: empty onto full", x.copyRow(2, 0), 0);
        Check.due("7: empty onto full, the row", x.text(0), "");
        Check.due("7: the row can be filled again", x.fill(0, 12, 0, 0), 12);
        Check.due("7: the copy stays as it was", x.text(1), full);
        Check.dueIndex(x, "7: both 3", () -> x.copyRow(3, 3));
        Check.dueIndex(x, "7: both -1", () -> x.copyRow(-1, -1));
    }

    private static void copyRowCountsNothing() {
        Orderlattice x = Made.withRow(1, 2);
        x.copyRow(0, 1);
        x.copyRow(0, 2);
        Check.due("7: things in all rows", x.house(0), 6);
        Check.due("7: how many were put", x.house(2), 2);
        Check.due("7: the next mark", x.put(2, 3), 2);
        Check.due("7: the first row", x.text(0), "1.0 2.1");
        Check.due("7: the second row", x.text(1), "1.0 2.1");
    }

    // ---- 8: turnRow

    /** "the one in the midst of an odd number does not; 0 of none" */
    private static void turnRowOfEachSize() {
        for (int size = 0; size <= 12; size++) {
            Orderlattice x = new Orderlattice();
            x.fill(0, size, 0, 1);
            Check.due("8: moved of " + size, x.turnRow(0), size % 2 == 0 ? size : size - 1);
            for (int place = 0; place < size; place++) {
                Check.due("8: place " + place + " of " + size, x.markAt(0, place), size - 1 - place);
            }
            Check.due("8: how many there are then", x.size(0), size);
            x.turnRow(0);
            for (int place = 0; place < size; place++) {
                Check.due("8: turned twice, place " + place, x.markAt(0, place), place);
            }
        }
    }

    private static void turnRowOfAlikeOnes() {
        Orderlattice x = Made.withRow(4, 4, 4, 4);
        Check.due("8: things with like values move, too", x.turnRow(0), 4);
        Check.due("8: the row", x.text(0), "4.3 4.2 4.1 4.0");
    }

    // ---- 9: wheel

    /** "Each THING moves so many PLACES on, round and round (below 0 back)."; "any number" */
    private static void wheelOfAnyNumber() {
        int[] numbers = {LEAST, LEAST + 1, LEAST + 11, -100, -13, -12, -11, -2, -1, 0, 1, 2, 11, 12, 13, 100,
            GREATEST - 11, GREATEST - 1, GREATEST};
        for (int size = 1; size <= 12; size++) {
            for (int by : numbers) {
                Orderlattice x = new Orderlattice();
                x.fill(0, size, 0, 1);
                // As a long the number has an opposite, and no sum goes beyond all numbers.
                int first = (int) (((-(long) by) % size + size) % size);
                Check.due("9: first of " + size + " by " + by, x.wheel(0, by), first);
                for (int place = 0; place < size; place++) {
                    Check.due("9: place " + place + " of " + size + " by " + by, x.markAt(0, place),
                            (first + place) % size);
                }
            }
        }
    }

    /** "NONE without any" */
    private static void wheelWithoutAny() {
        Orderlattice x = Made.withRow(3);
        for (int by : new int[] {LEAST, -1, 0, 1, GREATEST}) {
            Check.dueStays(x, "9: none by " + by, -1, () -> x.wheel(1, by));
            Check.dueStays(x, "9: one by " + by, 0, () -> x.wheel(0, by));
        }
        Orderlattice full = Made.full();
        Check.dueStays(full, "9: twelve by 0", 0, () -> full.wheel(0, 0));
        Check.dueStays(full, "9: twelve by 12", 0, () -> full.wheel(0, 12));
        Check.dueStays(full, "9: twelve by -24", 0, () -> full.wheel(0, -24));
    }

    // ---- 10: swap

    /** "0 of one PLACE with itself" */
    private static void swapOfOnePlaceWithItself() {
        Orderlattice x = Made.full();
        for (int place : new int[] {0, 5, 11}) {
            Check.dueStays(x, "10: place " + place + " with itself", 0, () -> x.swap(1, place, place));
        }
    }

    /** "whether the VALUES there are unlike: 1, otherwise 0"; "THINGS with like VALUES change PLACES, too" */
    private static void swapOfLikeAndUnlikeValues() {
        Orderlattice x = Made.withRow(7, 7, 0, 15);
        Check.due("10: like values", x.swap(0, 0, 1), 0);
        Check.due("10: like ones changed their places", x.text(0), "7.1 7.0 0.2 15.3");
        Check.due("10: unlike values", x.swap(0, 3, 2), 1);
        Check.due("10: unlike ones changed their places", x.text(0), "7.1 7.0 15.3 0.2");
        Check.due("10: the first and the last", x.swap(0, 0, 3), 1);
        Check.due("10: the row then", x.text(0), "0.2 7.0 15.3 7.1");
        Check.due("10: and back, the other way round", x.swap(0, 3, 0), 1);
        Check.due("10: the row as it was", x.text(0), "7.1 7.0 15.3 0.2");
    }

    /** "if there is no such ROW or PLACE (both)" */
    private static void swapOfEachPlaceAndNoOther() {
        Orderlattice x = Made.withRow(1, 2);
        for (int place : new int[] {LEAST, -1, 2, 12, GREATEST}) {
            Check.dueIndex(x, "10: one " + place + " of two", () -> x.swap(0, place, 0));
            Check.dueIndex(x, "10: other " + place + " of two", () -> x.swap(0, 0, place));
            Check.dueIndex(x, "10: both " + place + " of two", () -> x.swap(0, place, place));
        }
        Check.dueIndex(x, "10: place 0 of none with itself", () -> x.swap(1, 0, 0));
    }

    // ---- rows: "if there is no such ROW"

    private static void noSuchRow() {
        for (int row : NO_ROWS) {
            Orderlattice x = Made.inUse();
            Check.dueIndex(x, "2: put to row " + row, () -> x.put(row, 0));
            Check.dueIndex(x, "3: putAt of row " + row, () -> x.putAt(row, 0, 0));
            Check.dueIndex(x, "4: fill of row " + row, () -> x.fill(row, 0, 0, 0));
            Check.dueIndex(x, "5: drop of row " + row, () -> x.drop(row, 0));
            Check.dueIndex(x, "6: clear of row " + row, () -> x.clear(row));
            Check.dueIndex(x, "7: copyRow from row " + row, () -> x.copyRow(row, 0));
            Check.dueIndex(x, "7: copyRow into row " + row, () -> x.copyRow(0, row));
            Check.dueIndex(x, "8: turnRow of row " + row, () -> x.turnRow(row));
            Check.dueIndex(x, "9: wheel of row " + row, () -> x.wheel(row, 1));
            Check.dueIndex(x, "10: swap in row " + row, () -> x.swap(row, 0, 0));
        }
    }
}
