/** The sentences of promises 41 to 44, and those for all calls, that name a boundary case, each with a test of its own. */
public final class WholeEdgesTest {
    private static final int LEAST = Integer.MIN_VALUE;
    private static final int GREATEST = Integer.MAX_VALUE;
    private static final int MOST_CALLS = 512;
    private static final long NEW_DIGEST = -3738931094959723649L;

    public static void main(String[] args) {
        knockCountsThisOne();
        knockChangesNothingElse();
        houseTakesEachWhatAndNoOther();
        houseCountsThingsInAllRows();
        houseCountsStepsOfAllOrders();
        houseCountsWhatWasPutEver();
        houseCountsEachRefusal();
        houseCountsNoExceptions();
        theFirstOfSeveralExceptions();
        isSoundOfNewAndFull();
        isSoundChangesNothing();
        digestOfNew();
        digestChangesNothing();
        digestByTheOtherCalls();
        digestTellsWhatDiffers();
        digestOfLikeStates();
        allCallsThatAnObjectIsUsedFor();
        Check.end();
    }

    // ---- 41: knock

    /** "Returns how often one knocked, with this." */
    private static void knockCountsThisOne() {
        Orderlattice x = new Orderlattice();
        for (int i = 1; i < MOST_CALLS; i++) {
            Check.due("41: knock " + i, x.knock(), i);
        }
        Check.due("42: how often one knocked", x.house(4), MOST_CALLS - 1);
    }

    private static void knockChangesNothingElse() {
        Orderlattice x = Made.full();
        int[] before = houses(x);
        String rows = x.text(0) + x.text(1) + x.text(2);
        String orders = x.orderText(0) + x.orderText(1) + x.orderText(2) + x.orderText(3);
        Check.due("41: the first knock on a full one", x.knock(), 1);
        for (int what = 0; what <= 3; what++) {
            Check.due("41: house(" + what + ") behind a knock", x.house(what), before[what]);
        }
        Check.due("41: the rows behind a knock", x.text(0) + x.text(1) + x.text(2), rows);
        Check.due("41: the orders behind a knock",
                x.orderText(0) + x.orderText(1) + x.orderText(2) + x.orderText(3), orders);
    }

    private static int[] houses(Orderlattice x) {
        int[] counts = new int[5];
        for (int what = 0; what <= 4; what++) {
            counts[what] = x.house(what);
        }
        return counts;
    }

    // ---- 42: house

    /** "if what is not 0 to 4" */
    private static void houseTakesEachWhatAndNoOther() {
        Orderlattice x = Made.full();
        x.put(0, 0);
        x.step(0, 0, false);
        x.unstep(0);
        x.knock();
        x.knock();
        x.knock();
        int[] due = {36, 19, 36, 2, 3};
        for (int what = 0; what <= 4; what++) {
            int of = what;
            Check.dueStays(x, "42: house(" + what + ")", due[what], () -> x.house(of));
        }
        for (int what : new int[] {LEAST, -1, 5, GREATEST}) {
            Check.dueArgument(x, "42: house(" + what + ")", () -> x.house(what));
        }
    }

    private static void houseCountsThingsInAllRows() {
        Orderlattice x = new Orderlattice();
        for (int row = 0; row <= 2; row++) {
            x.fill(row, 12, 0, 0);
            Check.due("42: things with row " + row + " full", x.house(0), 12 * (row + 1));
        }
        x.drop(2, 0);
        Check.due("42: things when one went", x.house(0), 35);
        x.copyRow(2, 0);
        Check.due("42: things when eleven stand for twelve", x.house(0), 34);
        x.clear(1);
        Check.due("42: things when twelve went", x.house(0), 22);
        x.clear(0);
        x.clear(2);
        Check.due("42: none", x.house(0), 0);
    }

    private static void houseCountsStepsOfAllOrders() {
        Orderlattice x = new Orderlattice();
        for (int order = 0; order <= 3; order++) {
            Made.step(x, order, "0+ 1+ 2+ 3+ 4+");
            Check.due("42: steps with order " + order + " full", x.house(1), 5 * (order + 1));
        }
        x.unstep(3);
        x.unstep(3);
        x.unstep(3);
        Check.due("42: steps when three went", x.house(1), 17);
        x.copyOrder(3, 0);
        Check.due("42: steps when two stand for five", x.house(1), 14);
        x.product(0, 3, 1);
        Check.due("42: steps when four stand for five", x.house(1), 13);
        x.tellApart(0, 0, 15);
        Check.due("42: steps when it was refused", x.house(1), 13);
        x.wipe(0);
        x.tellApart(0, 0, 15);
        Check.due("42: steps of tellApart, too", x.house(1), 12);
    }

    private static void houseCountsWhatWasPutEver() {
        Orderlattice x = new Orderlattice();
        for (int i = 1; i <= 200; i++) {
            x.fill(0, 12, 0, 0);
            x.clear(0);
        }
        Check.due("42: how many were filled ever", x.house(2), 2400);
        Check.due("42: though none is left", x.house(0), 0);
        Check.due("2: the mark then", x.put(0, 7), 2400);
        Check.due("17: such a mark", x.text(0), "7.2400");
    }

    /** "how often REFUSED was told": by each call that tells it. */
    private static void houseCountsEachRefusal() {
        Orderlattice x = Made.full();
        Check.dueRefused(x, "2: put to a full row", () -> x.put(1, 0));
        Check.dueRefused(x, "3: putAt to a full row", () -> x.putAt(1, 0, 0));
        Check.dueRefused(x, "4: fill of a full row", () -> x.fill(1, 1, 0, 0));
        Check.dueRefused(x, "19: search out of sequence", () -> x.search(1, 1, 0));
        Check.dueRefused(x, "25: step of five", () -> x.step(1, 0, false));
        Check.dueRefused(x, "30: product of five and five", () -> x.product(1, 2, 3));
        Check.dueRefused(x, "31: tellApart of five", () -> x.tellApart(0, 0, 2));
        x.wipe(2);
        Check.dueRefused(x, "26: unstep of none", () -> x.unstep(2));
        Check.due("42: eight were refused", x.house(3), 8);
    }

    private static void houseCountsNoExceptions() {
        Orderlattice x = Made.full();
        Check.dueIndex(x, "2: put", () -> x.put(3, 0));
        Check.dueArgument(x, "2: put", () -> x.put(0, 16));
        Check.dueArgument(x, "4: fill", () -> x.fill(0, 13, 0, 0));
        Check.dueIndex(x, "12: sortPart", () -> x.sortPart(0, 0, 0, 13));
        Check.dueArgument(x, "12: sortPart", () -> x.sortPart(0, 0, 1, 0));
        Check.dueArgument(x, "19: search", () -> x.search(1, 1, 16));
        Check.dueArgument(x, "25: step", () -> x.step(0, 8, false));
        Check.dueIndex(x, "26: unstep", () -> x.unstep(4));
        Check.dueIndex(x, "30: product", () -> x.product(0, 0, 4));
        Check.dueArgument(x, "31: tellApart", () -> x.tellApart(0, 16, 0));
        Check.dueArgument(x, "42: house", () -> x.house(5));
        Check.due("42: none was refused", x.house(3), 0);
    }

    // ---- "If several exceptions apply, the one that is named first is thrown"

    private static void theFirstOfSeveralExceptions() {
        for (Orderlattice x : new Orderlattice[] {new Orderlattice(), Made.inUse(), Made.full()}) {
            Check.dueIndex(x, "2: row and value", () -> x.put(-1, -1));
            Check.dueIndex(x, "3: row, place and value", () -> x.putAt(3, -1, 16));
            Check.dueIndex(x, "3: place and value", () -> x.putAt(0, 13, -1));
            Check.dueIndex(x, "4: row, many, from and by", () -> x.fill(3, -1, -1, -1));
            Check.dueIndex(x, "11: row, order and way", () -> x.sort(3, 4, 3));
            Check.dueIndex(x, "11: order and way", () -> x.sort(0, -1, -1));
            Check.dueIndex(x, "12: from above to, beyond all", () -> x.sortPart(0, 0, 14, 13));
            Check.dueIndex(x, "12: from above to, below all", () -> x.sortPart(0, 0, -1, -2));
            Check.dueIndex(x, "19: order and value", () -> x.search(0, 4, -1));
            Check.dueIndex(x, "20: order, value and how", () -> x.near(0, -1, 16, -1));
            Check.dueIndex(x, "22: row and value", () -> x.ahead(3, 0, 16));
        }
        for (Orderlattice x : new Orderlattice[] {new Orderlattice(), Made.inUse(), Made.full()}) {
            Check.dueIndex(x, "25: order and key", () -> x.step(-1, 8, true));
            Check.dueIndex(x, "31: order and values", () -> x.tellApart(4, -1, 16));
            Check.dueIndex(x, "33: order and values", () -> x.compare(4, -1, 16));
            Check.dueIndex(x, "34: the other order and values", () -> x.both(0, 4, -1, 16));
            Check.dueIndex(x, "39: order and value", () -> x.rank(4, 16));
            Check.dueArgument(x, "40: key and value", () -> x.keyOf(8, 16));
        }
    }

    // ---- 43: isSound

    private static void isSoundOfNewAndFull() {
        Orderlattice x = new Orderlattice();
        Check.dueStays(x, "43: of a new one", true, () -> x.isSound());
        Orderlattice full = Made.full();
        Check.dueStays(full, "43: of a full one", true, () -> full.isSound());
        full.copyOrder(0, 1);
        full.copyOrder(0, 2);
        full.copyOrder(0, 3);
        Check.dueStays(full, "43: of four orders that are the same", true, () -> full.isSound());
        for (int order = 0; order <= 3; order++) {
            full.wipe(order);
        }
        Check.dueStays(full, "43: of full rows and no steps", true, () -> full.isSound());
    }

    /** It sorts and turns, but no row and no order of the object; and it refuses nothing. */
    private static void isSoundChangesNothing() {
        String[] several = {"", "0-", "3+ 4-", "6+ 5- 2+", "1- 1- 3+ 7- 0+"};
        for (int i = 0; i < several.length; i++) {
            Orderlattice x = Made.withOrders(several[i], several[(i + 1) % 5], several[(i + 2) % 5],
                    several[(i + 3) % 5]);
            x.fill(0, i * 3, 15, 11);
            x.fill(1, 12 - i, 4, 9);
            x.fill(2, i % 2, 9, 0);
            Check.dueStays(x, "43: with orders from " + several[i], true, () -> x.isSound());
            Check.due("42: nothing was refused", x.house(3), 0);
        }
    }

    // ---- 44: digest

    private static void digestOfNew() {
        Orderlattice x = new Orderlattice();
        Check.due("44: of a new one", x.digest(), NEW_DIGEST);
        Check.due("44: of a new one by the other calls", summed(x), NEW_DIGEST);
        Check.due("44: of another new one", new Orderlattice().digest(), NEW_DIGEST);
    }

    private static void digestChangesNothing() {
        Orderlattice x = Made.full();
        Check.dueStays(x, "44: once more", x.digest(), () -> x.digest());
        Check.due("44: and once more", x.digest(), x.digest());
    }

    private static void digestByTheOtherCalls() {
        Check.due("44: of one in use", Made.inUse().digest(), summed(Made.inUse()));
        Check.due("44: of a full one", Made.full().digest(), summed(Made.full()));
    }

    /** The checksum as the document tells it, of what the other calls answer. */
    private static long summed(Orderlattice x) {
        long d = 7842;
        for (int what = 0; what <= 4; what++) {
            d = d * 31 + x.house(what);
        }
        for (int row = 0; row <= 2; row++) {
            int size = x.size(row);
            d = d * 31 + size;
            for (int place = 0; place < size; place++) {
                d = (d * 31 + x.valueAt(row, place)) * 31 + x.markAt(row, place);
            }
        }
        for (int order = 0; order <= 3; order++) {
            String steps = x.orderText(order);
            d = d * 31 + (steps.length() + 1) / 3;
            for (int at = 0; at < steps.length(); at += 3) {
                d = (d * 31 + (steps.charAt(at) - '0')) * 31 + (steps.charAt(at + 1) == '-' ? 1 : 0);
            }
            d = d * 31 + x.classes(order);
            for (int value = 0; value <= 15; value++) {
                d = d * 31 + x.rank(order, value);
            }
        }
        for (int pair = 0; pair < 16; pair++) {
            d = (d * 31 + x.apart(pair / 4, pair % 4)) * 31 + (x.refines(pair / 4, pair % 4) ? 1 : 0);
        }
        for (int pair = 0; pair < 12; pair++) {
            d = (d * 31 + x.kinds(pair / 4, pair % 4)) * 31 + (x.isSorted(pair / 4, pair % 4) ? 1 : 0);
        }
        return d * 31 + (x.isSound() ? 1 : 0);
    }

    /** Each of the numbers that it is made of changes it. */
    private static void digestTellsWhatDiffers() {
        long[] last = {Made.full().digest()};
        Orderlattice x = Made.full();
        dueOther(x, last, "a knock", x.knock());
        dueOther(x, last, "a refusal", x.put(0, 0));
        dueOther(x, last, "two things changed", x.swap(2, 0, 11));
        dueOther(x, last, "the row turned", x.turnRow(1));
        dueOther(x, last, "the row wheeled", x.wheel(0, -1));
        dueOther(x, last, "one less", x.drop(0, 11));
        dueOther(x, last, "a step less", x.unstep(2));
        dueOther(x, last, "a step that tells nothing", x.step(2, 7, false));
        dueOther(x, last, "the order turned", x.turn(2));
        dueOther(x, last, "a row like another one", x.copyRow(1, 2));
        dueOther(x, last, "an order like another one", x.copyOrder(3, 2));
        dueOther(x, last, "an empty row", x.clear(0));
        dueOther(x, last, "an order without steps", x.wipe(0));
        dueOther(x, last, "two things with like values", x.fill(0, 2, 5, 0));
        dueOther(x, last, "these two changed", x.swap(0, 0, 1));
    }

    private static void dueOther(Orderlattice x, long[] last, String what, int answer) {
        long now = x.digest();
        Check.due("44: with " + what + " (" + answer + ") it is another one", now != last[0], true);
        last[0] = now;
    }

    /** Whatever way a state was come to. */
    private static void digestOfLikeStates() {
        Orderlattice x = Made.full();
        long before = x.digest();
        x.turnRow(1);
        x.turnRow(1);
        x.wheel(2, 5);
        x.wheel(2, 7);
        x.swap(0, 3, 8);
        x.swap(0, 8, 3);
        x.turn(1);
        x.turn(1);
        x.unstep(3);
        x.step(3, 4, true);
        x.copyRow(1, 1);
        x.copyOrder(2, 2);
        x.fill(0, 0, 0, 0);
        Check.due("44: there and back again", x.digest(), before);
    }

    // ---- "An object is used for at most 512 calls after it has been made"

    private static void allCallsThatAnObjectIsUsedFor() {
        Orderlattice x = new Orderlattice();
        for (int call = 1; call < MOST_CALLS; call++) {
            Check.due("26: call " + call, x.unstep(call % 4), -9);
        }
        Check.due("42: the last call", x.house(3), MOST_CALLS - 1);
        Orderlattice other = new Orderlattice();
        for (int call = 1; call < MOST_CALLS; call++) {
            Check.due("2: call " + call, other.put(call % 3, call % 16), call <= 36 ? call - 1 : -9);
        }
        Check.due("42: the last call of the other one", other.house(2), 36);
    }
}
