import java.util.Random;

/** Long runs of calls, whose answers are compared with those of a second, plain reading of the document. */
public final class ModelTest {
    private static final int RUNS = 80;
    // With a digest behind every fourth one these are the 512 calls that an object is used for.
    private static final int CALLS = 409;
    private static final int CALLS_A_DIGEST = 4;

    public static void main(String[] args) {
        for (int seed = 0; seed < RUNS; seed++) {
            run(seed);
        }
        Check.end();
    }

    private static void run(int seed) {
        Random random = new Random(seed);
        Orderlattice x = new Orderlattice();
        Model m = new Model();
        for (int i = 0; i < CALLS; i++) {
            String where = "run " + seed + ", call " + i + ": ";
            compareOne(x, m, random, where);
            if (i % CALLS_A_DIGEST == 0) {
                Check.due(where + "digest", x.digest(), m.digest());
            }
        }
    }

    /** Mostly within the bounds, now and then one beyond them. */
    private static int some(Random r, int bound) {
        int dice = r.nextInt(60);
        if (dice == 0) {
            return -1;
        }
        if (dice == 1) {
            return bound;
        }
        if (dice == 2) {
            return r.nextBoolean() ? Integer.MIN_VALUE : Integer.MAX_VALUE;
        }
        return r.nextInt(bound);
    }

    private static void ask(String where, String call, Check.Call got, Check.Call want) {
        Check.due(where + call, Check.outcome(got), Check.outcome(want));
    }

    private static void compareOne(Orderlattice x, Model m, Random r, String where) {
        int row = some(r, 3);
        int row2 = some(r, 3);
        int o = some(r, 4);
        int o2 = some(r, 4);
        int o3 = some(r, 4);
        int v = some(r, 16);
        int v2 = some(r, 16);
        int size = row >= 0 && row < 3 ? m.rows.get(row).size() : 5;
        int place = some(r, size + 1);
        int place2 = some(r, size + 1);
        int key = some(r, 8);
        int way = some(r, 3);
        int how = some(r, 4);
        int what = some(r, 5);
        int many = some(r, 13);
        int from = some(r, 100);
        int by = some(r, 100);
        int turns = r.nextInt(4) == 0 ? r.nextInt() : r.nextInt(41) - 20;
        boolean flag = r.nextBoolean();
        String a = " (" + row + " " + row2 + " " + o + " " + o2 + " " + o3 + " " + v + " " + v2 + " " + place + " "
                + place2 + " " + key + " " + way + " " + how + " " + what + " " + many + " " + from + " " + by + " "
                + turns + " " + flag + ")";
        switch (r.nextInt(46)) {
            case 0: case 41: ask(where, "put" + a, () -> x.put(row, v), () -> m.put(row, v)); break;
            case 1: case 42: ask(where, "putAt" + a, () -> x.putAt(row, place, v), () -> m.putAt(row, place, v)); break;
            case 2: ask(where, "fill" + a, () -> x.fill(row, many, from, by), () -> m.fill(row, many, from, by)); break;
            case 3: ask(where, "drop" + a, () -> x.drop(row, place), () -> m.drop(row, place)); break;
            case 4:
                if (r.nextInt(3) == 0) {
                    ask(where, "clear" + a, () -> x.clear(row), () -> m.clear(row));
                }
                break;
            case 5: ask(where, "copyRow" + a, () -> x.copyRow(row, row2), () -> m.copyRow(row, row2)); break;
            case 6: ask(where, "turnRow" + a, () -> x.turnRow(row), () -> m.turnRow(row)); break;
            case 7: ask(where, "wheel" + a, () -> x.wheel(row, turns), () -> m.wheel(row, turns)); break;
            case 8: ask(where, "swap" + a, () -> x.swap(row, place, place2), () -> m.swap(row, place, place2)); break;
            case 9: ask(where, "sort" + a, () -> x.sort(row, o, way), () -> m.sort(row, o, way)); break;
            case 10: ask(where, "sortPart" + a, () -> x.sortPart(row, o, place, place2),
                    () -> m.sortPart(row, o, place, place2)); break;
            case 11: ask(where, "isSorted" + a, () -> x.isSorted(row, o), () -> m.isSorted(row, o)); break;
            case 12: ask(where, "size" + a, () -> x.size(row), () -> m.size(row)); break;
            case 13: ask(where, "valueAt" + a, () -> x.valueAt(row, place), () -> m.valueAt(row, place)); break;
            case 14: ask(where, "markAt" + a, () -> x.markAt(row, place), () -> m.markAt(row, place)); break;
            case 15: ask(where, "text" + a, () -> x.text(row), () -> m.text(row)); break;
            case 16: ask(where, "extreme" + a, () -> x.extreme(row, o, flag), () -> m.extreme(row, o, flag)); break;
            case 17: ask(where, "search" + a, () -> x.search(row, o, v), () -> m.search(row, o, v)); break;
            case 18: ask(where, "near" + a, () -> x.near(row, o, v, how), () -> m.near(row, o, v, how)); break;
            case 19: ask(where, "kinds" + a, () -> x.kinds(row, o), () -> m.kinds(row, o)); break;
            case 20: ask(where, "ahead" + a, () -> x.ahead(row, o, v), () -> m.ahead(row, o, v)); break;
            case 21: ask(where, "groups" + a, () -> x.groups(row, o), () -> m.groups(row, o)); break;
            case 22: ask(where, "ranks" + a, () -> x.ranks(row, o, flag), () -> m.ranks(row, o, flag)); break;
            case 23: case 43: ask(where, "step" + a, () -> x.step(o, key, flag), () -> m.step(o, key, flag)); break;
            case 24: ask(where, "unstep" + a, () -> x.unstep(o), () -> m.unstep(o)); break;
            case 25: ask(where, "wipe" + a, () -> x.wipe(o), () -> m.wipe(o)); break;
            case 26: ask(where, "copyOrder" + a, () -> x.copyOrder(o, o2), () -> m.copyOrder(o, o2)); break;
            case 27: ask(where, "turn" + a, () -> x.turn(o), () -> m.turn(o)); break;
            case 28: ask(where, "product" + a, () -> x.product(o, o2, o3), () -> m.product(o, o2, o3)); break;
            case 29: case 44: ask(where, "tellApart" + a, () -> x.tellApart(o, v, v2), () -> m.tellApart(o, v, v2));
                break;
            case 30: ask(where, "orderText" + a, () -> x.orderText(o), () -> m.orderText(o)); break;
            case 31: ask(where, "compare" + a, () -> x.compare(o, v, v2), () -> m.compare(o, v, v2)); break;
            case 32: ask(where, "both" + a, () -> x.both(o, o2, v, v2), () -> m.both(o, o2, v, v2)); break;
            case 33: ask(where, "refines" + a, () -> x.refines(o, o2), () -> m.refines(o, o2)); break;
            case 34: ask(where, "areSame" + a, () -> x.areSame(o, o2), () -> m.areSame(o, o2)); break;
            case 35: ask(where, "apart" + a, () -> x.apart(o, o2), () -> m.apart(o, o2)); break;
            case 36: ask(where, "classes" + a, () -> x.classes(o), () -> m.classes(o)); break;
            case 37: ask(where, "rank" + a, () -> x.rank(o, v), () -> m.rank(o, v)); break;
            case 38: ask(where, "keyOf" + a, () -> x.keyOf(key, v), () -> m.keyOf(key, v)); break;
            case 39: ask(where, "knock", () -> x.knock(), () -> m.knock()); break;
            case 40: ask(where, "house" + a, () -> x.house(what), () -> m.house(what)); break;
            default:
                ask(where, "isSound", () -> x.isSound(), () -> m.isSound());
                break;
        }
    }
}
