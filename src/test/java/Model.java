import java.util.ArrayList;
import java.util.Comparator;
import java.util.List;
import java.util.TreeSet;

/** A second, plain reading of the document: each call of the face, in its plainest form. */
final class Model {
    final List<List<int[]>> rows = new ArrayList<>();
    final List<List<int[]>> orders = new ArrayList<>();
    int given = 0;
    int refused = 0;
    int knocks = 0;

    Model() {
        for (int i = 0; i < 3; i++) {
            rows.add(new ArrayList<>());
        }
        for (int i = 0; i < 4; i++) {
            orders.add(new ArrayList<>());
        }
    }

    List<int[]> row(int row) {
        if (row < 0 || row > 2) {
            throw new IndexOutOfBoundsException();
        }
        return rows.get(row);
    }

    List<int[]> order(int order) {
        if (order < 0 || order > 3) {
            throw new IndexOutOfBoundsException();
        }
        return orders.get(order);
    }

    void demand(boolean isSo) {
        if (!isSo) {
            throw new IllegalArgumentException();
        }
    }

    void demandIndex(boolean isSo) {
        if (!isSo) {
            throw new IndexOutOfBoundsException();
        }
    }

    void value(int v) {
        demand(v >= 0 && v <= 15);
    }

    int refuse() {
        refused++;
        return -9;
    }

    int[] at(int row, int place) {
        List<int[]> things = row(row);
        demandIndex(place >= 0 && place < things.size());
        return things.get(place);
    }

    int put(int row, int v) {
        return putAt(row, row(row).size(), v);
    }

    int putAt(int row, int place, int v) {
        List<int[]> things = row(row);
        demandIndex(place >= 0 && place <= things.size());
        value(v);
        if (things.size() == 12) {
            return refuse();
        }
        things.add(place, new int[] {v, given});
        return given++;
    }

    int fill(int row, int many, int from, int by) {
        List<int[]> things = row(row);
        demand(many >= 0 && many <= 12 && from >= 0 && from <= 99 && by >= 0 && by <= 99);
        if (things.size() + many > 12) {
            return refuse();
        }
        int number = from;
        for (int i = 0; i < many; i++) {
            things.add(new int[] {number % 16, given++});
            number += by;
        }
        return things.size();
    }

    int drop(int row, int place) {
        int mark = at(row, place)[1];
        row(row).remove(place);
        return mark;
    }

    int clear(int row) {
        int size = row(row).size();
        row(row).clear();
        return size;
    }

    int copyRow(int from, int into) {
        List<int[]> source = row(from);
        row(into);
        rows.set(into, new ArrayList<>(source));
        return source.size();
    }

    int change(int row, List<int[]> now) {
        List<int[]> then = rows.set(row, now);
        int sum = 0;
        for (int i = 0; i < now.size(); i++) {
            if (now.get(i)[1] != then.get(i)[1]) {
                sum++;
            }
        }
        return sum;
    }

    int turnRow(int row) {
        List<int[]> now = new ArrayList<>();
        for (int[] thing : row(row)) {
            now.add(0, thing);
        }
        return change(row, now);
    }

    int wheel(int row, int by) {
        List<int[]> now = new ArrayList<>(row(row));
        if (now.isEmpty()) {
            return -1;
        }
        long left = ((long) by % now.size() + now.size()) % now.size();
        for (; left > 0; left--) {
            now.add(0, now.remove(now.size() - 1));
        }
        change(row, now);
        return now.get(0)[1];
    }

    int swap(int row, int one, int other) {
        int[] a = at(row, one);
        int[] b = at(row, other);
        row(row).set(one, b);
        row(row).set(other, a);
        return a[0] != b[0] ? 1 : 0;
    }

    Comparator<int[]> by(List<int[]> order) {
        return (a, b) -> compare(order, a[0], b[0]);
    }

    int sort(int row, int o, int way) {
        List<int[]> now = new ArrayList<>(row(row));
        List<int[]> order = order(o);
        demand(way >= 0 && way <= 2);
        now.sort(by(order));
        return change(row, now);
    }

    int sortPart(int row, int o, int from, int to) {
        List<int[]> now = new ArrayList<>(row(row));
        List<int[]> order = order(o);
        demandIndex(from >= 0 && from <= now.size() && to >= 0 && to <= now.size());
        demand(from <= to);
        now.subList(from, to).sort(by(order));
        return change(row, now);
    }

    boolean isSorted(int row, int o) {
        List<int[]> things = row(row);
        List<int[]> order = order(o);
        for (int i = 0; i < things.size(); i++) {
            for (int j = i + 1; j < things.size(); j++) {
                if (compare(order, things.get(j)[0], things.get(i)[0]) < 0) {
                    return false;
                }
            }
        }
        return true;
    }

    int size(int row) {
        return row(row).size();
    }

    int valueAt(int row, int place) {
        return at(row, place)[0];
    }

    int markAt(int row, int place) {
        return at(row, place)[1];
    }

    String text(int row) {
        List<String> told = new ArrayList<>();
        for (int[] thing : row(row)) {
            told.add(thing[0] + "." + thing[1]);
        }
        return String.join(" ", told);
    }

    int extreme(int row, int o, boolean isLast) {
        TreeSet<Integer> all = ranksOf(row, o);
        return all.isEmpty() ? -1 : isLast ? all.last() : all.first();
    }

    TreeSet<Integer> ranksOf(int row, int o) {
        TreeSet<Integer> all = new TreeSet<>();
        List<int[]> order = order(o);
        for (int[] thing : row(row)) {
            all.add(rank(order, thing[0]));
        }
        return all;
    }

    int search(int row, int o, int v) {
        row(row);
        order(o);
        value(v);
        if (!isSorted(row, o)) {
            return refuse();
        }
        int sum = 0;
        for (int[] thing : row(row)) {
            int c = compare(order(o), thing[0], v);
            if (c == 0) {
                return 16;
            }
            sum += c < 0 ? 1 : 0;
        }
        return sum;
    }

    int near(int row, int o, int v, int how) {
        List<int[]> things = row(row);
        List<int[]> order = order(o);
        value(v);
        demand(how >= 0 && how <= 3);
        List<int[]> these = new ArrayList<>();
        for (int[] thing : things) {
            int c = compare(order, thing[0], v);
            if (how == 0 && c < 0 || how == 1 && c <= 0 || how == 2 && c >= 0 || how == 3 && c > 0) {
                these.add(thing);
            }
        }
        these.sort(how < 2 ? by(order).reversed() : by(order));
        return these.isEmpty() ? -1 : these.get(0)[1];
    }

    int kinds(int row, int o) {
        return ranksOf(row, o).size();
    }

    int ahead(int row, int o, int v) {
        row(row);
        order(o);
        value(v);
        return ranksOf(row, o).headSet(rank(order(o), v)).size();
    }

    String groups(int row, int o) {
        List<String> told = new ArrayList<>();
        for (int rank : ranksOf(row, o)) {
            int first = -1;
            int many = 0;
            for (int[] thing : row(row)) {
                if (rank(order(o), thing[0]) == rank) {
                    first = many == 0 ? thing[1] : first;
                    many++;
                }
            }
            told.add(first + ":" + many);
        }
        return String.join(" ", told);
    }

    String ranks(int row, int o, boolean isQueued) {
        List<Integer> all = new ArrayList<>();
        List<int[]> order = order(o);
        for (int[] thing : row(row)) {
            all.add(rank(order, thing[0]));
        }
        if (isQueued) {
            all.sort(Comparator.naturalOrder());
        }
        List<String> told = new ArrayList<>();
        for (int rank : all) {
            told.add(String.valueOf(rank));
        }
        return String.join(" ", told);
    }

    int step(int o, int key, boolean isDown) {
        List<int[]> order = order(o);
        demand(key >= 0 && key <= 7);
        if (order.size() == 5) {
            return refuse();
        }
        order.add(new int[] {key, isDown ? 1 : 0});
        return classes(order);
    }

    int unstep(int o) {
        List<int[]> order = order(o);
        return order.isEmpty() ? refuse() : order.remove(order.size() - 1)[0];
    }

    int wipe(int o) {
        int size = order(o).size();
        order(o).clear();
        return size;
    }

    int copyOrder(int from, int into) {
        List<int[]> source = order(from);
        order(into);
        orders.set(into, new ArrayList<>(source));
        return source.size();
    }

    int turn(int o) {
        List<int[]> now = new ArrayList<>();
        int sum = 0;
        for (int[] step : order(o)) {
            now.add(new int[] {step[0], 1 - step[1]});
            sum += 1 - step[1];
        }
        orders.set(o, now);
        return sum;
    }

    int product(int one, int other, int into) {
        List<int[]> now = new ArrayList<>(order(one));
        now.addAll(order(other));
        order(into);
        if (now.size() > 5) {
            return refuse();
        }
        orders.set(into, now);
        return classes(now);
    }

    int tellApart(int o, int one, int other) {
        List<int[]> order = order(o);
        value(one);
        value(other);
        if (one == other || compare(order, one, other) != 0 || order.size() == 5) {
            return refuse();
        }
        int best = -1;
        int fewest = 99;
        for (int key = 0; key < 8; key++) {
            if (keyOf(key, one) == keyOf(key, other)) {
                continue;
            }
            List<int[]> longer = new ArrayList<>(order);
            longer.add(new int[] {key, 0});
            if (classes(longer) < fewest) {
                fewest = classes(longer);
                best = key;
            }
        }
        order.add(new int[] {best, 0});
        return best;
    }

    String orderText(int o) {
        List<String> told = new ArrayList<>();
        for (int[] step : order(o)) {
            told.add(step[0] + (step[1] == 1 ? "-" : "+"));
        }
        return String.join(" ", told);
    }

    int compare(List<int[]> order, int one, int other) {
        for (int[] step : order) {
            int a = keyOf(step[0], one);
            int b = keyOf(step[0], other);
            if (a != b) {
                return (a < b) == (step[1] == 0) ? -1 : 1;
            }
        }
        return 0;
    }

    int compare(int o, int one, int other) {
        List<int[]> order = order(o);
        value(one);
        value(other);
        return compare(order, one, other);
    }

    int both(int o, int other, int one, int two) {
        order(o);
        order(other);
        int a = compare(o, one, two);
        int b = compare(other, one, two);
        if (a == 0 && b == 0) {
            return 0;
        }
        return a <= 0 && b <= 0 ? -1 : a >= 0 && b >= 0 ? 1 : 2;
    }

    boolean refines(int one, int other) {
        order(one);
        order(other);
        for (int a = 0; a < 16; a++) {
            for (int b = 0; b < 16; b++) {
                if (compare(other, a, b) == -1 && compare(one, a, b) != -1) {
                    return false;
                }
            }
        }
        return true;
    }

    boolean areSame(int one, int other) {
        order(one);
        order(other);
        for (int a = 0; a < 16; a++) {
            for (int b = 0; b < 16; b++) {
                if (compare(other, a, b) != compare(one, a, b)) {
                    return false;
                }
            }
        }
        return true;
    }

    int apart(int one, int other) {
        order(one);
        order(other);
        int sum = 0;
        for (int a = 0; a < 16; a++) {
            for (int b = 0; b < 16; b++) {
                if (compare(one, a, b) * compare(other, a, b) == -1) {
                    sum++;
                }
            }
        }
        return sum / 2;
    }

    int classes(List<int[]> order) {
        TreeSet<Integer> heads = new TreeSet<>((a, b) -> compare(order, a, b));
        for (int v = 0; v < 16; v++) {
            heads.add(v);
        }
        return heads.size();
    }

    int classes(int o) {
        return classes(order(o));
    }

    int rank(List<int[]> order, int value) {
        TreeSet<Integer> heads = new TreeSet<>((a, b) -> compare(order, a, b));
        for (int v = 0; v < 16; v++) {
            heads.add(v);
        }
        return heads.headSet(value).size();
    }

    int rank(int o, int v) {
        List<int[]> order = order(o);
        value(v);
        return rank(order, v);
    }

    int keyOf(int key, int v) {
        demand(key >= 0 && key <= 7);
        value(v);
        int ones = 0;
        for (int rest = v; rest > 0; rest = rest / 2) {
            ones += rest % 2;
        }
        int[] numbers = {v, v / 4, v % 4, v % 2, v % 3, v <= 7 ? 7 - v : v - 8, ones, 0};
        return numbers[key];
    }

    int knock() {
        knocks++;
        return knocks;
    }

    int house(int what) {
        demand(what >= 0 && what <= 4);
        int things = rows.get(0).size() + rows.get(1).size() + rows.get(2).size();
        int steps = 0;
        for (List<int[]> order : orders) {
            steps += order.size();
        }
        return new int[] {things, steps, given, refused, knocks}[what];
    }

    /** Laws of all orders and rows; no program that keeps to the document breaks one. */
    boolean isSound() {
        return true;
    }

    long digest() {
        List<Integer> all = new ArrayList<>();
        for (int what = 0; what < 5; what++) {
            all.add(house(what));
        }
        for (List<int[]> things : rows) {
            all.add(things.size());
            for (int[] thing : things) {
                all.add(thing[0]);
                all.add(thing[1]);
            }
        }
        for (List<int[]> order : orders) {
            all.add(order.size());
            for (int[] step : order) {
                all.add(step[0]);
                all.add(step[1]);
            }
            all.add(classes(order));
            for (int v = 0; v < 16; v++) {
                all.add(rank(order, v));
            }
        }
        for (int a = 0; a < 4; a++) {
            for (int b = 0; b < 4; b++) {
                all.add(apart(a, b));
                all.add(refines(a, b) ? 1 : 0);
            }
        }
        for (int row = 0; row < 3; row++) {
            for (int o = 0; o < 4; o++) {
                all.add(kinds(row, o));
                all.add(isSorted(row, o) ? 1 : 0);
            }
        }
        all.add(1);
        long d = 7842;
        for (int v : all) {
            d = d * 31 + v;
        }
        return d;
    }
}
