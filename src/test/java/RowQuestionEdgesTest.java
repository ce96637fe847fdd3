/** The sentences of promises 14 to 24 that name a boundary case, each with a test of its own. */
public final class RowQuestionEdgesTest {
    private static final int LEAST = Integer.MIN_VALUE;
    private static final int GREATEST = Integer.MAX_VALUE;
    private static final int[] NO_ROWS = {LEAST, -1, 3, GREATEST};
    private static final int[] NO_ORDERS = {LEAST, -1, 4, GREATEST};
    private static final int[] NO_VALUES = {LEAST, -1, 16, GREATEST};

    public static void main(String[] args) {
        sizeOfNoneToTwelve();
        placesOfNoneToTwelve();
        textWithoutAnyAndWithTwelve();
        textOfMarksOfThreeDigits();
        extremeWithoutAnyAndOfOne();
        extremeAtEachPlace();
        searchOfAnEmptyRow();
        searchOfOne();
        searchCountsEach();
        searchIsRefusedOutOfSequence();
        searchWithoutSteps();
        searchThrowsAheadOfRefused();
        nearWithoutAny();
        nearOfOne();
        nearOfAlikeOnes();
        nearAmongAll();
        nearByEachHowAndNoOther();
        kindsOfNoneToTwelve();
        aheadOfEachValue();
        aheadOfEmptyAndWithoutSteps();
        groupsWithoutAnyAndOfTwelve();
        ranksWithoutAnyAndOfTwelve();
        ranksOfAlikeOnes();
        eachValueAndNoOther();
        noSuchRow();
        noSuchOrder();
        Check.end();
    }

    // ---- 14 to 17: size, valueAt, markAt, text

    private static void sizeOfNoneToTwelve() {
        Orderlattice x = new Orderlattice();
        for (int many = 0; many <= 12; many++) {
            int size = many;
            Check.dueStays(x, "14: size of " + many, many, () -> x.size(0));
            Check.due("14: size of another row", x.size(2), 0);
            if (size < 12) {
                x.put(0, 0);
            }
        }
        x.put(0, 0);
        Check.due("14: size when one more was refused", x.size(0), 12);
    }

    /** "if there is no such ROW or PLACE": those beyond the last one, whatever stood there once. */
    private static void placesOfNoneToTwelve() {
        for (int size = 0; size <= 12; size++) {
            Orderlattice x = new Orderlattice();
            x.fill(0, 12, 3, 1);
            for (int i = size; i < 12; i++) {
                x.drop(0, size);
            }
            int behind = size;
            String of = " of " + size;
            Check.dueIndex(x, "15: place " + size + of, () -> x.valueAt(0, behind));
            Check.dueIndex(x, "16: place " + size + of, () -> x.markAt(0, behind));
            for (int place : new int[] {LEAST, -1, 12, GREATEST}) {
                Check.dueIndex(x, "15: place " + place + of, () -> x.valueAt(0, place));
                Check.dueIndex(x, "16: place " + place + of, () -> x.markAt(0, place));
            }
            for (int place = 0; place < size; place++) {
                Check.due("15: place " + place + of, x.valueAt(0, place), (3 + place) % 16);
                Check.due("16: place " + place + of, x.markAt(0, place), place);
            }
        }
    }

    /** "with " " between; "" without" */
    private static void textWithoutAnyAndWithTwelve() {
        Orderlattice x = new Orderlattice();
        Check.dueStays(x, "17: none", "", () -> x.text(1));
        x.put(1, 15);
        Check.dueStays(x, "17: one", "15.0", () -> x.text(1));
        x.fill(1, 11, 0, 1);
        Check.dueStays(x, "17: twelve", "15.0 0.1 1.2 2.3 3.4 4.5 5.6 6.7 7.8 8.9 9.10 10.11", () -> x.text(1));
        x.clear(1);
        Check.dueStays(x, "17: none again", "", () -> x.text(1));
    }

    private static void textOfMarksOfThreeDigits() {
        Orderlattice x = new Orderlattice();
        for (int i = 0; i < 9; i++) {
            x.fill(0, 11, 0, 0);
            x.clear(0);
        }
        x.put(0, 10);
        x.put(0, 9);
        Check.due("17: marks of two and of three digits", x.text(0), "10.99 9.100");
        Check.due("23: marks of two and of three digits", x.groups(0, 0), "99:2");
        Check.due("20: a mark of three digits", x.near(0, 0, 0, 1), 99);
    }

    // ---- 18: extreme

    /** "NONE without THINGS" */
    private static void extremeWithoutAnyAndOfOne() {
        Orderlattice x = Made.withOrders("", "0+", "0-", "7+ 7- 7+ 7- 0+");
        for (int order = 0; order <= 3; order++) {
            int by = order;
            Check.dueStays(x, "18: none, the last by order " + order, -1, () -> x.extreme(0, by, true));
            Check.dueStays(x, "18: none, the first by order " + order, -1, () -> x.extreme(0, by, false));
        }
        x.put(0, 15);
        int[] due = {0, 15, 0, 15};
        for (int order = 0; order <= 3; order++) {
            int by = order;
            Check.dueStays(x, "18: one, the last by order " + order, due[order], () -> x.extreme(0, by, true));
            Check.dueStays(x, "18: one, the first by order " + order, due[order], () -> x.extreme(0, by, false));
        }
        x.put(0, 0);
        Check.due("18: two, the last", x.extreme(0, 1, true), 15);
        Check.due("18: two, the first", x.extreme(0, 1, false), 0);
        Check.due("18: two without steps, the last", x.extreme(0, 0, true), 0);
    }

    private static void extremeAtEachPlace() {
        for (int place = 0; place < 12; place++) {
            Orderlattice x = Made.withOrders("0+", "0-");
            x.fill(0, 11, 7, 0);
            x.putAt(0, place, 12);
            Check.due("18: the last at place " + place, x.extreme(0, 0, true), 12);
            Check.due("18: the first beside place " + place, x.extreme(0, 0, false), 7);
            Check.due("18: DOWN, the first at place " + place, x.extreme(0, 1, false), 3);
            Check.due("18: DOWN, the last beside place " + place, x.extreme(0, 1, true), 8);
        }
    }

    // ---- 19: search

    /** "an empty ROW is: 0" */
    private static void searchOfAnEmptyRow() {
        Orderlattice x = Made.withOrders("", "0+", "0-", "7+ 7- 7+ 7- 0+");
        for (int order = 0; order <= 3; order++) {
            int by = order;
            Check.dueStays(x, "19: 0 in none by order " + order, 0, () -> x.search(1, by, 0));
            Check.dueStays(x, "19: 15 in none by order " + order, 0, () -> x.search(1, by, 15));
        }
        x.fill(1, 12, 15, 15);
        x.clear(1);
        Check.dueStays(x, "19: 15 in a row that was cleared", 0, () -> x.search(1, 1, 15));
    }

    private static void searchOfOne() {
        Orderlattice x = Made.withRowAndOrder("0+", 8);
        Check.dueStays(x, "19: the one", 16, () -> x.search(0, 0, 8));
        Check.dueStays(x, "19: one ahead of it", 0, () -> x.search(0, 0, 7));
        Check.dueStays(x, "19: one behind it", 1, () -> x.search(0, 0, 9));
        x.turn(0);
        Check.dueStays(x, "19: DOWN, the one", 16, () -> x.search(0, 0, 8));
        Check.dueStays(x, "19: DOWN, one behind it", 1, () -> x.search(0, 0, 7));
        Check.dueStays(x, "19: DOWN, one ahead of it", 0, () -> x.search(0, 0, 9));
    }

    /** "how many THINGS are AHEAD of it (each counts)" */
    private static void searchCountsEach() {
        Orderlattice x = Made.withOrders("0+", "1+");
        x.fill(0, 12, 14, 0);
        Check.due("19: twelve with like values ahead", x.search(0, 0, 15), 12);
        Check.due("19: twelve with like values behind", x.search(0, 0, 13), 0);
        Check.due("19: twelve alike to it", x.search(0, 1, 12), 16);
        Check.due("19: twelve alike ones ahead by quarters", x.search(0, 1, 11), 0);
        x.fill(1, 12, 1, 1);
        Check.due("19: ahead of all twelve", x.search(1, 0, 0), 0);
        Check.due("19: the first", x.search(1, 0, 1), 16);
        Check.due("19: the last", x.search(1, 0, 12), 16);
        Check.due("19: behind all twelve", x.search(1, 0, 13), 12);
        x.drop(1, 5);
        Check.due("19: in a gap", x.search(1, 0, 6), 5);
        Check.due("19: behind all eleven", x.search(1, 0, 15), 11);
    }

    /** "REFUSED if the ROW is not in sequence by the ORDER" */
    private static void searchIsRefusedOutOfSequence() {
        Orderlattice x = Made.withRowAndOrder("0+", 9, 8);
        Check.dueRefused(x, "19: two out of sequence", () -> x.search(0, 0, 0));
        Check.dueRefused(x, "19: one alike to it all the same", () -> x.search(0, 0, 9));
        Check.dueStays(x, "19: the same row without steps", 16, () -> x.search(0, 1, 0));
        x.swap(0, 0, 1);
        Check.dueStays(x, "19: then in sequence", 16, () -> x.search(0, 0, 9));
        x.fill(1, 11, 0, 1);
        x.put(1, 0);
        Check.dueRefused(x, "19: the last one alone is out of sequence", () -> x.search(1, 0, 3));
        x.wheel(1, 1);
        Check.dueStays(x, "19: twelve in sequence", 16, () -> x.search(1, 0, 3));
        x.swap(1, 1, 2);
        Check.dueRefused(x, "19: two in the midst are out of sequence", () -> x.search(1, 0, 15));
    }

    private static void searchWithoutSteps() {
        Orderlattice x = Made.full();
        x.wipe(3);
        for (int value = 0; value <= 15; value++) {
            Check.due("19: without steps all are alike to " + value, x.search(1, 3, value), 16);
        }
    }

    private static void searchThrowsAheadOfRefused() {
        Orderlattice x = Made.withRowAndOrder("0+", 9, 8);
        Check.dueArgument(x, "19: value 16 in a row out of sequence", () -> x.search(0, 0, 16));
        Check.dueArgument(x, "19: value -1 in a row out of sequence", () -> x.search(0, 0, -1));
        Check.dueIndex(x, "19: order 4, value 16", () -> x.search(0, 4, 16));
        Check.dueIndex(x, "19: row 3, order 4, value 16", () -> x.search(3, 4, 16));
    }

    // ---- 20: near

    /** "NONE if there is none" */
    private static void nearWithoutAny() {
        Orderlattice x = Made.withOrders("0+", "", "7+ 7- 7+ 7- 0+");
        for (int how = 0; how <= 3; how++) {
            int by = how;
            for (int order = 0; order <= 2; order++) {
                int of = order;
                Check.dueStays(x, "20: none, how " + how + ", order " + order, -1, () -> x.near(2, of, 7, by));
            }
        }
        Check.due("20: nothing was refused", x.house(3), 0);
    }

    /** "0 AHEAD of it, 1 AHEAD of it or ALIKE, 2 behind it or ALIKE, 3 behind it" */
    private static void nearOfOne() {
        Orderlattice x = Made.withRowAndOrder("0+", 8);
        int[][] due = {{-1, -1, 0}, {-1, 0, 0}, {0, 0, -1}, {0, -1, -1}};
        for (int how = 0; how <= 3; how++) {
            int by = how;
            for (int value = 7; value <= 9; value++) {
                int of = value;
                Check.dueStays(x, "20: one, value " + value + ", how " + how, due[how][value - 7],
                        () -> x.near(0, 0, of, by));
            }
        }
        x.turn(0);
        for (int how = 0; how <= 3; how++) {
            for (int value = 7; value <= 9; value++) {
                Check.due("20: DOWN, one, value " + value + ", how " + how, x.near(0, 0, value, how),
                        due[how][9 - value]);
            }
        }
    }

    /** "of ALIKE ones the one that stands first in the ROW" */
    private static void nearOfAlikeOnes() {
        Orderlattice x = new Orderlattice();
        x.fill(0, 12, 3, 5);
        int[] due = {-1, 0, 0, -1};
        for (int how = 0; how <= 3; how++) {
            Check.due("20: without steps, how " + how, x.near(0, 0, 9, how), due[how]);
        }
        x.turnRow(0);
        int[] turned = {-1, 11, 11, -1};
        for (int how = 0; how <= 3; how++) {
            Check.due("20: without steps, turned, how " + how, x.near(0, 0, 9, how), turned[how]);
        }
        Orderlattice quarters = Made.withRowAndOrder("1+", 12, 3, 2, 6, 1, 5, 10, 15, 9);
        int[] first = {1, 3, 3, 6};
        for (int how = 0; how <= 3; how++) {
            Check.due("20: of quarters, how " + how, quarters.near(0, 0, 4, how), first[how]);
        }
        quarters.turnRow(0);
        int[] last = {4, 5, 5, 8};
        for (int how = 0; how <= 3; how++) {
            Check.due("20: of quarters turned, how " + how, quarters.near(0, 0, 4, how), last[how]);
        }
    }

    /** "of these the one that none of these is behind (how 0 and 1), or that none of these is AHEAD of (2 and 3)" */
    private static void nearAmongAll() {
        Orderlattice x = Made.withRowAndOrder("0+", 15, 2, 8, 4, 0, 6);
        Check.due("20: ahead of 8", x.near(0, 0, 8, 0), 5);
        Check.due("20: ahead of 8 or alike", x.near(0, 0, 8, 1), 2);
        Check.due("20: behind 4 or alike", x.near(0, 0, 4, 2), 3);
        Check.due("20: behind 4", x.near(0, 0, 4, 3), 5);
        Check.due("20: ahead of 0", x.near(0, 0, 0, 0), -1);
        Check.due("20: ahead of 0 or alike", x.near(0, 0, 0, 1), 4);
        Check.due("20: behind 15 or alike", x.near(0, 0, 15, 2), 0);
        Check.due("20: behind 15", x.near(0, 0, 15, 3), -1);
        Check.due("20: ahead of 15", x.near(0, 0, 15, 0), 2);
        Check.due("20: behind 0", x.near(0, 0, 0, 3), 1);
        Check.due("20: the row need not be in sequence", x.house(3), 0);
    }

    /** "if value is not 0 to 15, or how not 0 to 3" */
    private static void nearByEachHowAndNoOther() {
        Orderlattice x = Made.inUse();
        for (int how : new int[] {LEAST, -1, 4, GREATEST}) {
            Check.dueArgument(x, "20: how " + how, () -> x.near(0, 0, 0, how));
            Check.dueArgument(x, "20: how " + how + " of an empty row", () -> x.near(1, 1, 0, how));
            Check.dueIndex(x, "20: order 4, how " + how, () -> x.near(0, 4, 0, how));
        }
    }

    // ---- 21: kinds, 22: ahead

    private static void kindsOfNoneToTwelve() {
        for (int size = 0; size <= 12; size++) {
            Orderlattice x = Made.withOrders("0+", "", "7+ 7- 7+ 7- 3+");
            x.fill(0, size, 4, 1);
            x.fill(1, size, 4, 0);
            Check.due("21: " + size + " unlike ones", x.kinds(0, 0), size);
            Check.due("21: " + size + " with like values", x.kinds(1, 0), Math.min(size, 1));
            Check.due("21: " + size + " without steps", x.kinds(0, 1), Math.min(size, 1));
            Check.due("21: " + size + " by the fifth step", x.kinds(0, 2), Math.min(size, 2));
        }
    }

    /** "(it need not be a VALUE there)" */
    private static void aheadOfEachValue() {
        Orderlattice x = Made.withRowAndOrder("0+", 15, 3, 3, 8, 3, 15);
        for (int value = 0; value <= 15; value++) {
            Check.due("22: lots ahead of " + value, x.ahead(0, 0, value), value <= 3 ? 0 : value <= 8 ? 1 : 2);
        }
        x.turn(0);
        for (int value = 0; value <= 15; value++) {
            Check.due("22: DOWN, lots ahead of " + value, x.ahead(0, 0, value), value == 15 ? 0 : value >= 8 ? 1
                    : value >= 3 ? 2 : 3);
        }
    }

    private static void aheadOfEmptyAndWithoutSteps() {
        Orderlattice x = Made.withOrders("0+", "");
        Check.dueStays(x, "22: of none, 0", 0, () -> x.ahead(0, 0, 0));
        Check.dueStays(x, "22: of none, 15", 0, () -> x.ahead(0, 0, 15));
        x.fill(0, 12, 0, 1);
        Check.dueStays(x, "22: of twelve unlike ones", 12, () -> x.ahead(0, 0, 12));
        Check.dueStays(x, "22: of twelve, ahead of the last", 11, () -> x.ahead(0, 0, 11));
        Check.dueStays(x, "22: of twelve, ahead of the first", 0, () -> x.ahead(0, 0, 0));
        Check.dueStays(x, "22: of twelve without steps", 0, () -> x.ahead(0, 1, 15));
        x.fill(1, 12, 4, 0);
        Check.dueStays(x, "22: of twelve with like values", 1, () -> x.ahead(1, 0, 5));
        Check.dueStays(x, "22: of twelve with this value", 0, () -> x.ahead(1, 0, 4));
    }

    // ---- 23: groups, 24: ranks

    private static void groupsWithoutAnyAndOfTwelve() {
        Orderlattice x = Made.withOrders("0+", "", "7+ 7- 7+ 7- 3-");
        for (int order = 0; order <= 2; order++) {
            int by = order;
            Check.dueStays(x, "23: none by order " + order, "", () -> x.groups(0, by));
        }
        x.put(0, 15);
        Check.dueStays(x, "23: one", "0:1", () -> x.groups(0, 0));
        Check.dueStays(x, "23: one without steps", "0:1", () -> x.groups(0, 1));
        x.fill(0, 11, 14, 15);
        Check.dueStays(x, "23: twelve unlike ones", "11:1 10:1 9:1 8:1 7:1 6:1 5:1 4:1 3:1 2:1 1:1 0:1",
                () -> x.groups(0, 0));
        Check.dueStays(x, "23: twelve without steps", "0:12", () -> x.groups(0, 1));
        Check.dueStays(x, "23: twelve by the fifth step", "0:6 1:6", () -> x.groups(0, 2));
        x.turnRow(0);
        Check.dueStays(x, "23: the one that stands first", "10:6 11:6", () -> x.groups(0, 2));
    }

    private static void ranksWithoutAnyAndOfTwelve() {
        Orderlattice x = Made.withOrders("0+", "", "7+ 7- 7+ 7- 0-");
        Check.dueStays(x, "24: none as they stand", "", () -> x.ranks(0, 0, false));
        Check.dueStays(x, "24: none one by one", "", () -> x.ranks(0, 0, true));
        x.put(0, 15);
        Check.dueStays(x, "24: one as it stands", "15", () -> x.ranks(0, 0, false));
        Check.dueStays(x, "24: one, one by one", "15", () -> x.ranks(0, 0, true));
        Check.dueStays(x, "24: one without steps", "0", () -> x.ranks(0, 1, true));
        x.fill(0, 11, 0, 1);
        Check.dueStays(x, "24: twelve as they stand", "15 0 1 2 3 4 5 6 7 8 9 10", () -> x.ranks(0, 0, false));
        Check.dueStays(x, "24: twelve one by one", "0 1 2 3 4 5 6 7 8 9 10 15", () -> x.ranks(0, 0, true));
        Check.dueStays(x, "24: twelve by the fifth step", "0 5 6 7 8 9 10 11 12 13 14 15",
                () -> x.ranks(0, 2, true));
        Check.dueStays(x, "24: twelve by the fifth step, as they stand", "0 15 14 13 12 11 10 9 8 7 6 5",
                () -> x.ranks(0, 2, false));
        Check.dueStays(x, "24: twelve without steps", "0 0 0 0 0 0 0 0 0 0 0 0", () -> x.ranks(0, 1, false));
    }

    private static void ranksOfAlikeOnes() {
        Orderlattice x = Made.withRowAndOrder("4-", 3, 5, 15, 2, 5, 0);
        Check.dueStays(x, "24: alike ones each as they stand", "2 0 2 0 0 2", () -> x.ranks(0, 0, false));
        Check.dueStays(x, "24: alike ones each one by one", "0 0 0 2 2 2", () -> x.ranks(0, 0, true));
    }

    // ---- "if value is not 0 to 15"; "if there is no such ROW or ORDER"

    private static void eachValueAndNoOther() {
        Orderlattice x = Made.withRowAndOrder("0+", 3, 9);
        for (int value = 0; value <= 15; value++) {
            int due = value <= 3 ? 0 : value <= 9 ? 1 : 2;
            Check.due("19: value " + value, x.search(0, 0, value), value == 3 || value == 9 ? 16 : due);
            Check.due("20: value " + value, x.near(0, 0, value, 0), due - 1);
            Check.due("22: value " + value, x.ahead(0, 0, value), due);
        }
        for (int value : NO_VALUES) {
            Check.dueArgument(x, "19: value " + value, () -> x.search(0, 0, value));
            Check.dueArgument(x, "20: value " + value, () -> x.near(0, 0, value, 0));
            Check.dueArgument(x, "22: value " + value, () -> x.ahead(0, 0, value));
        }
        Orderlattice empty = new Orderlattice();
        for (int value : NO_VALUES) {
            Check.dueArgument(empty, "19: value " + value + " of none", () -> empty.search(0, 0, value));
            Check.dueArgument(empty, "20: value " + value + " of none", () -> empty.near(0, 0, value, 0));
            Check.dueArgument(empty, "22: value " + value + " of none", () -> empty.ahead(0, 0, value));
        }
    }

    private static void noSuchRow() {
        for (int row : NO_ROWS) {
            Orderlattice x = Made.inUse();
            Check.dueIndex(x, "14: size of row " + row, () -> x.size(row));
            Check.dueIndex(x, "15: valueAt of row " + row, () -> x.valueAt(row, 0));
            Check.dueIndex(x, "16: markAt of row " + row, () -> x.markAt(row, 0));
            Check.dueIndex(x, "17: text of row " + row, () -> x.text(row));
            Check.dueIndex(x, "18: extreme of row " + row, () -> x.extreme(row, 0, true));
            Check.dueIndex(x, "19: search in row " + row, () -> x.search(row, 0, 16));
            Check.dueIndex(x, "20: near in row " + row, () -> x.near(row, 0, 16, 4));
            Check.dueIndex(x, "21: kinds of row " + row, () -> x.kinds(row, 0));
            Check.dueIndex(x, "22: ahead in row " + row, () -> x.ahead(row, 0, 16));
            Check.dueIndex(x, "23: groups of row " + row, () -> x.groups(row, 0));
            Check.dueIndex(x, "24: ranks of row " + row, () -> x.ranks(row, 0, false));
        }
    }

    private static void noSuchOrder() {
        for (int order : NO_ORDERS) {
            for (int row = 0; row <= 1; row++) {
                int of = row;
                Orderlattice x = Made.inUse();
                String where = " of row " + row + " by order " + order;
                Check.dueIndex(x, "18: extreme" + where, () -> x.extreme(of, order, false));
                Check.dueIndex(x, "19: search" + where, () -> x.search(of, order, 16));
                Check.dueIndex(x, "20: near" + where, () -> x.near(of, order, 16, 4));
                Check.dueIndex(x, "21: kinds" + where, () -> x.kinds(of, order));
                Check.dueIndex(x, "22: ahead" + where, () -> x.ahead(of, order, 16));
                Check.dueIndex(x, "23: groups" + where, () -> x.groups(of, order));
                Check.dueIndex(x, "24: ranks" + where, () -> x.ranks(of, order, true));
            }
        }
    }
}
