/** Promises 41 to 44: the whole; and what all calls have in common. */
public final class WholeTest {
    public static void main(String[] args) {
        knock();
        house();
        isSound();
        digest();
        digestOfEach();
        Check.end();
    }

    private static void knock() {
        Orderlattice x = new Orderlattice();
        for (int i = 1; i <= 5; i++) {
            Check.due("41: knock " + i, x.knock(), i);
        }
        Check.due("41: another object", new Orderlattice().knock(), 1);
    }

    private static void house() {
        Orderlattice x = new Orderlattice();
        x.fill(0, 3, 0, 1);
        x.fill(1, 9, 0, 1);
        x.put(2, 4);
        x.putAt(2, 0, 4);
        x.drop(0, 0);
        x.clear(1);
        x.copyRow(0, 1);
        x.step(0, 1, false);
        x.step(3, 1, false);
        x.product(0, 3, 2);
        x.knock();
        x.knock();
        x.unstep(1);
        x.tellApart(0, 1, 1);
        x.fill(0, 12, 0, 0);
        Check.due("42: things in all rows", x.house(0), 6);
        Check.due("42: steps of all orders", x.house(1), 4);
        Check.due("42: how many were put or filled ever", x.house(2), 14);
        Check.due("42: how often REFUSED was told", x.house(3), 3);
        Check.due("42: how often one knocked", x.house(4), 2);
        Check.dueArgument(x, "42: what 5", () -> x.house(5));
        Check.dueArgument(x, "42: what -1", () -> x.house(-1));
    }

    private static void isSound() {
        Check.due("43: a new object", new Orderlattice().isSound(), true);
        for (int first = 0; first < 48; first += 12) {
            Orderlattice x = new Orderlattice();
            for (int i = first; i < first + 12; i++) {
                change(x, i);
                Check.dueStays(x, "43: state " + i, true, () -> x.isSound());
            }
        }
    }

    private static void change(Orderlattice x, int i) {
        x.fill(i % 3, i % 13, i * 7 % 100, i * 13 % 100);
        x.step(i % 4, i * 5 % 8, i % 3 == 0);
        x.product(i % 4, (i + 1) % 4, (i + 2) % 4);
        x.sort(i % 3, (i + 1) % 4, 1);
        if (i % 5 == 4) {
            x.clear(i % 3);
            x.wipe(i % 4);
        }
    }

    private static void digest() {
        Orderlattice x = new Orderlattice();
        Check.due("44: of a new object", x.digest(), -3738931094959723649L);
        Check.due("44: once more", x.digest(), x.digest());
        Check.due("44: by the other methods", x.digest(), summed(x));
        x.fill(0, 11, 15, 7);
        x.fill(1, 4, 2, 99);
        x.step(0, 4, true);
        x.step(0, 3, false);
        x.step(1, 6, true);
        x.step(2, 0, true);
        x.sort(1, 1, 0);
        x.unstep(3);
        x.knock();
        Check.due("44: of one in use, by the other methods", x.digest(), summed(x));
    }

    /** The checksum as the document tells it, of what the other methods answer. */
    private static long summed(Orderlattice x) {
        long d = 7842;
        for (int what = 0; what < 5; what++) {
            d = d * 31 + x.house(what);
        }
        for (int row = 0; row < 3; row++) {
            d = d * 31 + x.size(row);
            for (int place = 0; place < x.size(row); place++) {
                d = d * 31 + x.valueAt(row, place);
                d = d * 31 + x.markAt(row, place);
            }
        }
        for (int order = 0; order < 4; order++) {
            String[] steps = x.orderText(order).isEmpty() ? new String[0] : x.orderText(order).split(" ");
            d = d * 31 + steps.length;
            for (String step : steps) {
                d = d * 31 + (step.charAt(0) - '0');
                d = d * 31 + (step.charAt(1) == '-' ? 1 : 0);
            }
            d = d * 31 + x.classes(order);
            for (int value = 0; value < 16; value++) {
                d = d * 31 + x.rank(order, value);
            }
        }
        for (int a = 0; a < 4; a++) {
            for (int b = 0; b < 4; b++) {
                d = d * 31 + x.apart(a, b);
                d = d * 31 + (x.refines(a, b) ? 1 : 0);
            }
        }
        for (int row = 0; row < 3; row++) {
            for (int order = 0; order < 4; order++) {
                d = d * 31 + x.kinds(row, order);
                d = d * 31 + (x.isSorted(row, order) ? 1 : 0);
            }
        }
        return d * 31 + (x.isSound() ? 1 : 0);
    }

    /** Whatever changes an object changes its digest. */
    private static void digestOfEach() {
        Orderlattice x = new Orderlattice();
        long[] before = {x.digest()};
        dueOther(x, before, "put", x.put(0, 3));
        dueOther(x, before, "a second thing", x.put(0, 3));
        dueOther(x, before, "swap of like values", x.swap(0, 0, 1));
        dueOther(x, before, "copyRow", x.copyRow(0, 2));
        dueOther(x, before, "step", x.step(1, 7, false));
        dueOther(x, before, "turn", x.turn(1));
        dueOther(x, before, "knock", x.knock());
        dueOther(x, before, "a refusal", x.unstep(3));
    }

    private static void dueOther(Orderlattice x, long[] before, String what, int answer) {
        long now = x.digest();
        Check.due("44: other after " + what, now != before[0], true);
        before[0] = now;
    }
}
