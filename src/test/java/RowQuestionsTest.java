/** Promises 14 to 24: what is asked of rows. */
public final class RowQuestionsTest {
    public static void main(String[] args) {
        size();
        valueAtAndMarkAt();
        text();
        extreme();
        search();
        near();
        nearOfAlikeOnes();
        kinds();
        ahead();
        groups();
        ranks();
        nothingChanges();
        Check.end();
    }

    /** Row 0 is 9.0 4.1 15.2 10.3 5.4 0.5; order 0 is by quarters, UP. */
    private static Orderlattice made() {
        Orderlattice x = new Orderlattice();
        x.fill(0, 6, 9, 11);
        x.step(0, 1, false);
        return x;
    }

    private static void dueRowAndOrder(String what, Orderlattice x, RowCall call) {
        Check.dueIndex(x, what + ": row 3", () -> call.answer(3, 0));
        Check.dueIndex(x, what + ": row -1", () -> call.answer(-1, 0));
        Check.dueIndex(x, what + ": order 4", () -> call.answer(0, 4));
        Check.dueIndex(x, what + ": order -1", () -> call.answer(0, -1));
    }

    private interface RowCall {
        Object answer(int row, int order);
    }

    private static void size() {
        Orderlattice x = made();
        Check.due("14: six", x.size(0), 6);
        Check.due("14: none", x.size(2), 0);
        x.drop(0, 5);
        Check.due("14: five", x.size(0), 5);
        Check.dueIndex(x, "14: row 3", () -> x.size(3));
        Check.dueIndex(x, "14: row -1", () -> x.size(-1));
    }

    private static void valueAtAndMarkAt() {
        Orderlattice x = made();
        x.turnRow(0);
        Check.due("15: the first", x.valueAt(0, 0), 0);
        Check.due("15: the third", x.valueAt(0, 2), 10);
        Check.due("15: the last", x.valueAt(0, 5), 9);
        Check.due("16: the first", x.markAt(0, 0), 5);
        Check.due("16: the third", x.markAt(0, 2), 3);
        Check.due("16: the last", x.markAt(0, 5), 0);
        Check.dueIndex(x, "15: place 6", () -> x.valueAt(0, 6));
        Check.dueIndex(x, "15: place -1", () -> x.valueAt(0, -1));
        Check.dueIndex(x, "15: row 3", () -> x.valueAt(3, 0));
        Check.dueIndex(x, "15: row -1", () -> x.valueAt(-1, 0));
        Check.dueIndex(x, "15: an empty row", () -> x.valueAt(1, 0));
        Check.dueIndex(x, "16: place 6", () -> x.markAt(0, 6));
        Check.dueIndex(x, "16: place -1", () -> x.markAt(0, -1));
        Check.dueIndex(x, "16: row 3", () -> x.markAt(3, 0));
        Check.dueIndex(x, "16: row -1", () -> x.markAt(-1, 0));
        Check.dueIndex(x, "16: an empty row", () -> x.markAt(1, 0));
        x.drop(0, 0);
        Check.dueIndex(x, "15: a place that went", () -> x.valueAt(0, 5));
        Check.dueIndex(x, "16: a place that went", () -> x.markAt(0, 5));
    }

    private static void text() {
        Orderlattice x = made();
        Check.due("17: six", x.text(0), "9.0 4.1 15.2 10.3 5.4 0.5");
        Check.due("17: none", x.text(1), "");
        x.put(1, 12);
        Check.due("17: one", x.text(1), "12.6");
        Check.dueIndex(x, "17: row 3", () -> x.text(3));
        Check.dueIndex(x, "17: row -1", () -> x.text(-1));
    }

    private static void extreme() {
        Orderlattice x = made();
        Check.due("18: the first rank", x.extreme(0, 0, false), 0);
        Check.due("18: the last rank", x.extreme(0, 0, true), 3);
        x.drop(0, 5);
        Check.due("18: the first rank then, among all values", x.extreme(0, 0, false), 1);
        x.turn(0);
        Check.due("18: turned, the first", x.extreme(0, 0, false), 0);
        Check.due("18: turned, the last", x.extreme(0, 0, true), 2);
        Check.due("18: without steps", x.extreme(0, 1, true), 0);
        Check.due("18: none, the first", x.extreme(1, 0, false), -1);
        Check.due("18: none, the last", x.extreme(1, 0, true), -1);
        x.fill(2, 1, 13, 0);
        Check.due("18: one, the first", x.extreme(2, 0, false), 0);
        Check.due("18: one, the last", x.extreme(2, 0, true), 0);
        x.fill(2, 2, 13, 8);
        x.putAt(2, 0, 1);
        Check.due("18: the last one stands first", x.extreme(2, 0, true), 3);
        x.drop(2, 0);
        x.put(2, 2);
        Check.due("18: the last one stands last", x.extreme(2, 0, true), 3);
        Check.due("18: the first one stands first", x.extreme(2, 0, false), 0);
        dueRowAndOrder("18", x, (row, order) -> x.extreme(row, order, true));
    }

    private static void search() {
        Orderlattice x = made();
        Check.dueRefused(x, "19: not in sequence", () -> x.search(0, 0, 9));
        Check.due("19: none", x.search(1, 0, 9), 0);
        x.sort(0, 0, 0);
        Check.due("19: alike to it", x.search(0, 0, 14), 16);
        x.wipe(0);
        x.step(0, 0, false);
        x.sort(0, 0, 0);
        Check.due("19: the first one", x.search(0, 0, 0), 16);
        x.drop(0, 0);
        Check.due("19: ahead of all", x.search(0, 0, 0), 0);
        Check.due("19: in the midst", x.search(0, 0, 8), 2);
        x.putAt(0, 1, 4);
        Check.due("19: each counts", x.search(0, 0, 8), 3);
        Check.due("19: behind all but one", x.search(0, 0, 14), 5);
        x.drop(0, 5);
        Check.due("19: behind all", x.search(0, 0, 15), 5);
        dueRowAndOrder("19", x, (row, order) -> x.search(row, order, 16));
        Check.dueArgument(x, "19: value 16", () -> x.search(0, 0, 16));
        Check.dueArgument(x, "19: value -1", () -> x.search(0, 0, -1));
        x.turn(0);
        Check.dueRefused(x, "19: turned", () -> x.search(0, 0, 4));
        Check.dueArgument(x, "19: a wrong value, ahead of what is refused", () -> x.search(0, 0, 16));
    }

    private static void near() {
        Orderlattice x = made();
        x.wipe(0);
        x.step(0, 0, false);
        Check.due("20: ahead of 9", x.near(0, 0, 9, 0), 4);
        Check.due("20: ahead of 9 or alike", x.near(0, 0, 9, 1), 0);
        Check.due("20: behind 9 or alike", x.near(0, 0, 9, 2), 0);
        Check.due("20: behind 9", x.near(0, 0, 9, 3), 3);
        Check.due("20: ahead of 7 or alike", x.near(0, 0, 7, 1), 4);
        Check.due("20: behind 7 or alike", x.near(0, 0, 7, 2), 0);
        Check.due("20: ahead of the first", x.near(0, 0, 0, 0), -1);
        Check.due("20: behind the last", x.near(0, 0, 15, 3), -1);
        Check.due("20: of an empty row", x.near(1, 0, 5, 1), -1);
        x.turn(0);
        Check.due("20: turned, ahead of 9", x.near(0, 0, 9, 0), 3);
        Check.due("20: turned, behind 9", x.near(0, 0, 9, 3), 4);
        dueRowAndOrder("20", x, (row, order) -> x.near(row, order, 16, 4));
        Check.dueArgument(x, "20: value 16", () -> x.near(0, 0, 16, 0));
        Check.dueArgument(x, "20: value -1", () -> x.near(0, 0, -1, 0));
        Check.dueArgument(x, "20: how 4", () -> x.near(0, 0, 0, 4));
        Check.dueArgument(x, "20: how -1", () -> x.near(0, 0, 0, -1));
        Check.dueArgument(x, "20: how -1 of an empty row", () -> x.near(1, 0, 0, -1));
    }

    private static void nearOfAlikeOnes() {
        Orderlattice x = made();
        Check.due("20: of alike ones the first, ahead", x.near(0, 0, 8, 0), 1);
        Check.due("20: of alike ones the first, ahead or alike", x.near(0, 0, 8, 1), 0);
        Check.due("20: of alike ones the first, behind or alike", x.near(0, 0, 8, 2), 0);
        Check.due("20: of alike ones the first, behind", x.near(0, 0, 0, 3), 1);
        x.turnRow(0);
        Check.due("20: turned, ahead", x.near(0, 0, 8, 0), 4);
        Check.due("20: turned, ahead or alike", x.near(0, 0, 8, 1), 3);
        Check.due("20: turned, behind or alike", x.near(0, 0, 8, 2), 3);
        Check.due("20: turned, behind", x.near(0, 0, 0, 3), 4);
        Check.due("20: without steps, alike", x.near(0, 1, 3, 1), 5);
        Check.due("20: without steps, behind", x.near(0, 1, 3, 3), -1);
    }

    private static void kinds() {
        Orderlattice x = made();
        Check.due("21: by quarters", x.kinds(0, 0), 4);
        Check.due("21: without steps", x.kinds(0, 1), 1);
        x.step(1, 3, true);
        Check.due("21: even and odd ones", x.kinds(0, 1), 2);
        x.step(2, 0, true);
        Check.due("21: each its own", x.kinds(0, 2), 6);
        x.put(0, 9);
        Check.due("21: like values make one", x.kinds(0, 2), 6);
        Check.due("21: none", x.kinds(1, 0), 0);
        dueRowAndOrder("21", x, (row, order) -> x.kinds(row, order));
    }

    private static void ahead() {
        Orderlattice x = made();
        Check.due("22: of 0", x.ahead(0, 0, 0), 0);
        Check.due("22: of 4", x.ahead(0, 0, 4), 1);
        Check.due("22: of 8, two alike ones once", x.ahead(0, 0, 8), 2);
        Check.due("22: of 13", x.ahead(0, 0, 13), 3);
        x.drop(0, 0);
        x.drop(0, 2);
        Check.due("22: a class without things does not count", x.ahead(0, 0, 13), 2);
        x.turn(0);
        Check.due("22: turned, of 0", x.ahead(0, 0, 0), 2);
        Check.due("22: without steps", x.ahead(0, 1, 5), 0);
        Check.due("22: of an empty row", x.ahead(1, 0, 5), 0);
        dueRowAndOrder("22", x, (row, order) -> x.ahead(row, order, 16));
        Check.dueArgument(x, "22: value 16", () -> x.ahead(0, 0, 16));
        Check.dueArgument(x, "22: value -1", () -> x.ahead(0, 0, -1));
    }

    private static void groups() {
        Orderlattice x = made();
        Check.due("23: by quarters", x.groups(0, 0), "5:1 1:2 0:2 2:1");
        x.turn(0);
        Check.due("23: turned", x.groups(0, 0), "2:1 0:2 1:2 5:1");
        x.turnRow(0);
        Check.due("23: the first in the row", x.groups(0, 0), "2:1 3:2 4:2 5:1");
        Check.due("23: without steps", x.groups(0, 1), "5:6");
        Check.due("23: none", x.groups(1, 0), "");
        x.fill(2, 12, 3, 0);
        Check.due("23: twelve alike", x.groups(2, 0), "6:12");
        dueRowAndOrder("23", x, (row, order) -> x.groups(row, order));
    }

    private static void ranks() {
        Orderlattice x = made();
        Check.due("24: as they stand", x.ranks(0, 0, false), "2 1 3 2 1 0");
        Check.due("24: one by one", x.ranks(0, 0, true), "0 1 1 2 2 3");
        x.turn(0);
        Check.due("24: turned, as they stand", x.ranks(0, 0, false), "1 2 0 1 2 3");
        Check.due("24: turned, one by one", x.ranks(0, 0, true), "0 1 1 2 2 3");
        x.step(0, 0, false);
        Check.due("24: among all sixteen values", x.ranks(0, 0, true), "3 5 6 8 9 12");
        Check.due("24: the row stays", x.text(0), "9.0 4.1 15.2 10.3 5.4 0.5");
        Check.due("24: without steps", x.ranks(0, 1, true), "0 0 0 0 0 0");
        Check.due("24: none, one by one", x.ranks(1, 0, true), "");
        Check.due("24: none, as they stand", x.ranks(1, 0, false), "");
        x.fill(2, 12, 11, 15);
        Check.due("24: twelve as they stand", x.ranks(2, 0, false), "7 6 5 4 11 10 9 8 15 14 13 12");
        x.turnRow(2);
        Check.due("24: twelve, one by one", x.ranks(2, 0, true), "4 5 6 7 8 9 10 11 12 13 14 15");
        dueRowAndOrder("24", x, (row, order) -> x.ranks(row, order, true));
        dueRowAndOrder("24", x, (row, order) -> x.ranks(row, order, false));
    }

    private static void nothingChanges() {
        Orderlattice x = made();
        x.step(2, 6, true);
        long before = x.digest();
        for (int order = 0; order < 4; order++) {
            x.extreme(0, order, true);
            x.near(0, order, 3, 1);
            x.kinds(0, order);
            x.ahead(0, order, 9);
            x.groups(0, order);
            x.ranks(0, order, true);
            x.isSorted(0, order);
            x.search(1, order, 4);
        }
        Check.due("14 to 24: questions change nothing", x.digest(), before);
    }
}
