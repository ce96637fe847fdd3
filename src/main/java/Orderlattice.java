/** Rows of things, and the orders by which they are compared, sorted and searched. */
public final class Orderlattice {
    private static final int NONE = -1;
    private static final int REFUSED = -9;
    private static final int VALUES = 16;
    private static final int KEYS = 8;
    private static final int ROWS = 3;
    private static final int ORDERS = 4;
    private static final int MOST_THINGS = 12;
    private static final int MOST_STEPS = 5;
    private static final int WAYS = 3;
    private static final int HOWS = 4;
    private static final int COUNTS = 5;
    private static final int GREATEST_FILLER = 99;
    private static final int FOUND = 16;
    private static final int APART = 2;
    private static final long DIGEST_START = 7842L;
    private static final long DIGEST_FACTOR = 31L;

    private final Row[] rows = new Row[ROWS];
    private final Order[] orders = new Order[ORDERS];
    private final Sorter sorter = new Sorter();
    private final Auditor auditor = new Auditor();
    // Made once and used again by many calls, since all that is ever made counts.
    private final Row spareRow = new Row();
    private final Order spareOrder = new Order();
    private int marksGiven = 0;
    private int refusals = 0;
    private int knocks = 0;

    public Orderlattice() {
        for (int row = 0; row < rows.length; row++) {
            rows[row] = new Row();
        }
        for (int order = 0; order < orders.length; order++) {
            orders[order] = new Order();
        }
    }

    // ---- rows

    public int put(int row, int value) throws IndexOutOfBoundsException, IllegalArgumentException {
        Row things = rowAt(row);
        demandValue(value);
        return placeNew(things, things.length(), value);
    }

    public int putAt(int row, int place, int value)
            throws IndexOutOfBoundsException, IllegalArgumentException {
        Row things = rowAt(row);
        demandGap(things, place);
        demandValue(value);
        return placeNew(things, place, value);
    }

    public int fill(int row, int many, int from, int by)
            throws IndexOutOfBoundsException, IllegalArgumentException {
        Row things = rowAt(row);
        demandWithin(many, MOST_THINGS);
        demandWithin(from, GREATEST_FILLER);
        demandWithin(by, GREATEST_FILLER);
        if (things.length() + many > MOST_THINGS) {
            return refuse();
        }
        for (int i = 0; i < many; i++) {
            things.append((from + i * by) % VALUES, nextMark());
        }
        return things.length();
    }

    public int drop(int row, int place) throws IndexOutOfBoundsException {
        Row things = rowAt(row);
        demandPlace(things, place);
        int mark = things.markOn(place);
        things.remove(place);
        return mark;
    }

    public int clear(int row) throws IndexOutOfBoundsException {
        Row things = rowAt(row);
        int before = things.length();
        things.empty();
        return before;
    }

    public int copyRow(int from, int into) throws IndexOutOfBoundsException {
        Row source = rowAt(from);
        Row target = rowAt(into);
        target.becomeCopyOf(source);
        return target.length();
    }

    public int turnRow(int row) throws IndexOutOfBoundsException {
        Row things = rowAt(row);
        things.reverse();
        return things.length() - things.length() % 2;
    }

    public int wheel(int row, int by) throws IndexOutOfBoundsException {
        Row things = rowAt(row);
        int many = things.length();
        if (many <= 0) {
            return NONE;
        }
        int shift = Math.floorMod(by, many);
        spareRow.becomeCopyOf(things);
        for (int place = 0; place < many; place++) {
            things.replace((place + shift) % many, spareRow.valueOn(place), spareRow.markOn(place));
        }
        return things.markOn(0);
    }

    public int swap(int row, int one, int other) throws IndexOutOfBoundsException {
        Row things = rowAt(row);
        demandPlace(things, one);
        demandPlace(things, other);
        things.exchange(one, other);
        return things.valueOn(one) != things.valueOn(other) ? 1 : 0;
    }

    // ---- sorting

    public int sort(int row, int order, int way)
            throws IndexOutOfBoundsException, IllegalArgumentException {
        Row things = rowAt(row);
        Order by = orderAt(order);
        demandWithin(way, WAYS - 1);
        spareRow.becomeCopyOf(things);
        sorter.arrangeAll(things, by, way);
        return things.placesUnlike(spareRow);
    }

    public int sortPart(int row, int order, int from, int to)
            throws IndexOutOfBoundsException, IllegalArgumentException {
        Row things = rowAt(row);
        Order by = orderAt(order);
        demandGap(things, from);
        demandGap(things, to);
        if (from > to) {
            throw new IllegalArgumentException("from is above to");
        }
        spareRow.becomeCopyOf(things);
        sorter.insertEach(things, by, from, to);
        return things.placesUnlike(spareRow);
    }

    public boolean isSorted(int row, int order) throws IndexOutOfBoundsException {
        Row things = rowAt(row);
        return things.isInSequenceBy(orderAt(order));
    }

    // ---- what is asked of rows

    public int size(int row) throws IndexOutOfBoundsException {
        return rowAt(row).length();
    }

    public int valueAt(int row, int place) throws IndexOutOfBoundsException {
        Row things = rowAt(row);
        demandPlace(things, place);
        return things.valueOn(place);
    }

    public int markAt(int row, int place) throws IndexOutOfBoundsException {
        Row things = rowAt(row);
        demandPlace(things, place);
        return things.markOn(place);
    }

    public String text(int row) throws IndexOutOfBoundsException {
        return rowAt(row).told();
    }

    public int extreme(int row, int order, boolean isLast) throws IndexOutOfBoundsException {
        Row things = rowAt(row);
        Order by = orderAt(order);
        int place = isLast ? things.lastPlaceBy(by) : things.firstPlaceBy(by);
        return place == NONE ? NONE : by.rankOf(things.valueOn(place));
    }

    public int search(int row, int order, int value)
            throws IndexOutOfBoundsException, IllegalArgumentException {
        Row things = rowAt(row);
        Order by = orderAt(order);
        demandValue(value);
        if (!things.isInSequenceBy(by)) {
            return refuse();
        }
        return things.hasAlike(by, value) ? FOUND : things.thingsAhead(by, value);
    }

    public int near(int row, int order, int value, int how)
            throws IndexOutOfBoundsException, IllegalArgumentException {
        Row things = rowAt(row);
        Order by = orderAt(order);
        demandValue(value);
        demandWithin(how, HOWS - 1);
        int place = things.nearestPlace(by, value, how);
        return place == NONE ? NONE : things.markOn(place);
    }

    public int kinds(int row, int order) throws IndexOutOfBoundsException {
        Row things = rowAt(row);
        return things.lots(orderAt(order));
    }

    public int ahead(int row, int order, int value)
            throws IndexOutOfBoundsException, IllegalArgumentException {
        Row things = rowAt(row);
        Order by = orderAt(order);
        demandValue(value);
        return things.lotsAhead(by, value);
    }

    public String groups(int row, int order) throws IndexOutOfBoundsException {
        Row things = rowAt(row);
        return things.lotsTold(orderAt(order));
    }

    public String ranks(int row, int order, boolean isQueued) throws IndexOutOfBoundsException {
        Row things = rowAt(row);
        Order by = orderAt(order);
        spareRow.becomeCopyOf(things);
        StringBuilder told = new StringBuilder();
        for (int left = spareRow.length(); left > 0; left--) {
            int place = isQueued ? spareRow.firstPlaceBy(by) : 0;
            appendGap(told);
            told.append(by.rankOf(spareRow.valueOn(place)));
            spareRow.remove(place);
        }
        return told.toString();
    }

    // ---- orders

    public int step(int order, int key, boolean isDown)
            throws IndexOutOfBoundsException, IllegalArgumentException {
        Order steps = orderAt(order);
        demandWithin(key, KEYS - 1);
        if (steps.length() >= MOST_STEPS) {
            return refuse();
        }
        steps.append(key, isDown);
        return steps.classCount();
    }

    public int unstep(int order) throws IndexOutOfBoundsException {
        Order steps = orderAt(order);
        if (steps.length() == 0) {
            return refuse();
        }
        int key = steps.keyOn(steps.length() - 1);
        steps.removeLast();
        return key;
    }

    public int wipe(int order) throws IndexOutOfBoundsException {
        Order steps = orderAt(order);
        int before = steps.length();
        steps.empty();
        return before;
    }

    public int copyOrder(int from, int into) throws IndexOutOfBoundsException {
        Order source = orderAt(from);
        Order target = orderAt(into);
        target.becomeCopyOf(source);
        return target.length();
    }

    public int turn(int order) throws IndexOutOfBoundsException {
        Order steps = orderAt(order);
        steps.reverse();
        return steps.downSteps();
    }

    public int product(int one, int other, int into) throws IndexOutOfBoundsException {
        Order first = orderAt(one);
        Order second = orderAt(other);
        Order target = orderAt(into);
        if (first.length() + second.length() > MOST_STEPS) {
            return refuse();
        }
        // By way of the spare one, since the target may be one of both.
        spareOrder.becomeProductOf(first, second);
        target.becomeCopyOf(spareOrder);
        return target.classCount();
    }

    public int tellApart(int order, int one, int other)
            throws IndexOutOfBoundsException, IllegalArgumentException {
        Order steps = orderAt(order);
        demandValue(one);
        demandValue(other);
        if (one == other || steps.compared(one, other) != 0 || steps.length() >= MOST_STEPS) {
            return refuse();
        }
        int key = coarsestKey(steps, one, other);
        steps.append(key, false);
        return key;
    }

    // ---- what is asked of orders

    public String orderText(int order) throws IndexOutOfBoundsException {
        return orderAt(order).told();
    }

    public int compare(int order, int one, int other)
            throws IndexOutOfBoundsException, IllegalArgumentException {
        Order by = orderAt(order);
        demandValue(one);
        demandValue(other);
        return by.compared(one, other);
    }

    public int both(int order, int other, int one, int two)
            throws IndexOutOfBoundsException, IllegalArgumentException {
        Order first = orderAt(order);
        Order second = orderAt(other);
        demandValue(one);
        demandValue(two);
        return comparedByBoth(first, second, one, two);
    }

    public boolean refines(int one, int other) throws IndexOutOfBoundsException {
        Order finer = orderAt(one);
        return finer.isFinerThan(orderAt(other));
    }

    public boolean areSame(int one, int other) throws IndexOutOfBoundsException {
        Order first = orderAt(one);
        return first.comparesLike(orderAt(other));
    }

    public int apart(int one, int other) throws IndexOutOfBoundsException {
        Order first = orderAt(one);
        return pairsApart(first, orderAt(other));
    }

    public int classes(int order) throws IndexOutOfBoundsException {
        return orderAt(order).classCount();
    }

    public int rank(int order, int value) throws IndexOutOfBoundsException, IllegalArgumentException {
        Order by = orderAt(order);
        demandValue(value);
        return by.rankOf(value);
    }

    public int keyOf(int key, int value) throws IllegalArgumentException {
        demandWithin(key, KEYS - 1);
        demandValue(value);
        return Order.numberBy(key, value);
    }

    // ---- the whole

    public int knock() {
        knocks++;
        return knocks;
    }

    public int house(int what) throws IllegalArgumentException {
        demandWithin(what, COUNTS - 1);
        return count(what);
    }

    public boolean isSound() {
        boolean holds = true;
        for (int i = 0; holds && i < ORDERS; i++) {
            Order one = orderAt(i);
            holds = auditor.areSignsTurned(one) && auditor.areRanksAsClasses(one);
            for (int row = 0; holds && row < ROWS; row++) {
                Row things = rowAt(row);
                holds = auditor.areWaysAgreed(things, one) && auditor.staysSorted(things, one)
                        && auditor.isTurnedAlike(things, one) && auditor.isQueuedAlike(things, one);
            }
            for (int j = 0; holds && j < ORDERS; j++) {
                Order other = orderAt(j);
                holds = auditor.isRefiningSound(one, other);
                for (int row = 0; holds && row < ROWS; row++) {
                    holds = auditor.isProductAlike(rowAt(row), one, other);
                }
            }
        }
        return holds;
    }

    public long digest() {
        long sum = DIGEST_START;
        for (int what = 0; what < COUNTS; what++) {
            sum = mixed(sum, count(what));
        }
        sum = mixedWithRows(sum);
        sum = mixedWithOrders(sum);
        sum = mixedWithPairs(sum);
        sum = mixedWithSequences(sum);
        return mixed(sum, isSound() ? 1 : 0);
    }

    // ---- what is demanded of arguments

    private Row rowAt(int row) {
        Row found = row < 0 || row >= rows.length ? null : rows[row];
        if (found == null) {
            throw new IndexOutOfBoundsException("no such row");
        }
        return found;
    }

    private Order orderAt(int order) {
        Order found = order < 0 || order >= orders.length ? null : orders[order];
        if (found == null) {
            throw new IndexOutOfBoundsException("no such order");
        }
        return found;
    }

    private static void demandPlace(Row things, int place) {
        if (place < 0 || place >= things.length()) {
            throw new IndexOutOfBoundsException("no such place");
        }
    }

    /** A gap is ahead of a place, or behind all of them. */
    private static void demandGap(Row things, int place) {
        if (place < 0 || place > things.length()) {
            throw new IndexOutOfBoundsException("no such place");
        }
    }

    private static void demandValue(int value) {
        demandWithin(value, VALUES - 1);
    }

    private static void demandWithin(int number, int greatest) {
        if (number < 0 || number > greatest) {
            throw new IllegalArgumentException("a number is out of its bounds");
        }
    }

    // ---- counting

    private int refuse() {
        refusals++;
        return REFUSED;
    }

    private int nextMark() {
        int mark = marksGiven;
        marksGiven++;
        return mark;
    }

    private int count(int what) {
        switch (what) {
            case 0:
                return thingsInAll();
            case 1:
                return stepsInAll();
            case 2:
                return marksGiven;
            case 3:
                return refusals;
            default:
                return knocks;
        }
    }

    private int thingsInAll() {
        int sum = 0;
        for (int row = 0; row < ROWS; row++) {
            sum += rowAt(row).length();
        }
        return sum;
    }

    private int stepsInAll() {
        int sum = 0;
        for (int order = 0; order < ORDERS; order++) {
            sum += orderAt(order).length();
        }
        return sum;
    }

    // ---- parts of the calls

    private int placeNew(Row things, int place, int value) {
        if (things.length() >= MOST_THINGS) {
            return refuse();
        }
        int mark = nextMark();
        things.insert(place, value, mark);
        return mark;
    }

    /** Of the keys that tell two values apart the one that leaves the fewest classes. */
    private int coarsestKey(Order steps, int one, int other) {
        int best = 0;
        int fewest = VALUES + 1;
        for (int key = 0; key < KEYS; key++) {
            if (Order.numberBy(key, one) != Order.numberBy(key, other)) {
                spareOrder.becomeCopyOf(steps);
                spareOrder.append(key, false);
                if (spareOrder.classCount() < fewest) {
                    fewest = spareOrder.classCount();
                    best = key;
                }
            }
        }
        return best;
    }

    private static int comparedByBoth(Order first, Order second, int one, int two) {
        int byFirst = first.compared(one, two);
        int bySecond = second.compared(one, two);
        if (byFirst != 0 && byFirst == -bySecond) {
            return APART;
        }
        return byFirst != 0 ? byFirst : bySecond;
    }

    private static int pairsApart(Order first, Order second) {
        int pairs = 0;
        for (int one = 0; one < VALUES; one++) {
            for (int two = one + 1; two < VALUES; two++) {
                if (comparedByBoth(first, second, one, two) == APART) {
                    pairs++;
                }
            }
        }
        return pairs;
    }

    private static void appendGap(StringBuilder told) {
        if (told.length() > 0) {
            told.append(' ');
        }
    }

    private static long mixed(long sum, int number) {
        return sum * DIGEST_FACTOR + number;
    }

    private long mixedWithRows(long start) {
        long sum = start;
        for (int row = 0; row < ROWS; row++) {
            Row things = rowAt(row);
            sum = mixed(sum, things.length());
            for (int place = 0; place < things.length(); place++) {
                sum = mixed(sum, things.valueOn(place));
                sum = mixed(sum, things.markOn(place));
            }
        }
        return sum;
    }

    private long mixedWithOrders(long start) {
        long sum = start;
        for (int order = 0; order < ORDERS; order++) {
            Order steps = orderAt(order);
            sum = mixed(sum, steps.length());
            for (int at = 0; at < steps.length(); at++) {
                sum = mixed(sum, steps.keyOn(at));
                sum = mixed(sum, steps.isDownOn(at) ? 1 : 0);
            }
            sum = mixed(sum, steps.classCount());
            for (int value = 0; value < VALUES; value++) {
                sum = mixed(sum, steps.rankOf(value));
            }
        }
        return sum;
    }

    private long mixedWithPairs(long start) {
        long sum = start;
        for (int one = 0; one < ORDERS; one++) {
            for (int other = 0; other < ORDERS; other++) {
                sum = mixed(sum, pairsApart(orderAt(one), orderAt(other)));
                sum = mixed(sum, orderAt(one).isFinerThan(orderAt(other)) ? 1 : 0);
            }
        }
        return sum;
    }

    private long mixedWithSequences(long start) {
        long sum = start;
        for (int row = 0; row < ROWS; row++) {
            for (int order = 0; order < ORDERS; order++) {
                sum = mixed(sum, rowAt(row).lots(orderAt(order)));
                sum = mixed(sum, rowAt(row).isInSequenceBy(orderAt(order)) ? 1 : 0);
            }
        }
        return sum;
    }

    /** Steps, and what follows from them for each value. */
    private static final class Order {
        // A product of two orders that are full.
        private static final int LONGEST = 2 * MOST_STEPS;

        private final int[] keys = new int[LONGEST];
        private final boolean[] downs = new boolean[LONGEST];
        private final long[] codes = new long[VALUES];
        private final int[] ranks = new int[VALUES];
        private int many = 0;
        private int classes = 1;

        static int numberBy(int key, int value) {
            switch (key) {
                case 0:
                    return value;
                case 1:
                    return value / 4;
                case 2:
                    return value % 4;
                case 3:
                    return value % 2;
                case 4:
                    return value % 3;
                case 5:
                    return value < 8 ? 7 - value : value - 8;
                case 6:
                    return Integer.bitCount(value);
                default:
                    return 0;
            }
        }

        int length() {
            return many;
        }

        int keyOn(int at) {
            return at >= 0 && at < keys.length ? keys[at] : 0;
        }

        boolean isDownOn(int at) {
            return at >= 0 && at < downs.length && downs[at];
        }

        int downSteps() {
            int sum = 0;
            for (int at = 0; at < many; at++) {
                if (isDownOn(at)) {
                    sum++;
                }
            }
            return sum;
        }

        void append(int key, boolean isDown) {
            addStep(key, isDown);
            settle();
        }

        void removeLast() {
            if (many > 0) {
                many--;
                settle();
            }
        }

        void empty() {
            many = 0;
            settle();
        }

        void reverse() {
            for (int at = 0; at < many && at < downs.length; at++) {
                downs[at] = !downs[at];
            }
            settle();
        }

        void becomeCopyOf(Order source) {
            int steps = source.length();
            many = 0;
            addSteps(source, steps);
            settle();
        }

        /** Not for an order that is itself one of both. */
        void becomeProductOf(Order one, Order other) {
            many = 0;
            addSteps(one, one.length());
            addSteps(other, other.length());
            settle();
        }

        int compared(int one, int other) {
            long code = one >= 0 && one < codes.length ? codes[one] : 0L;
            long otherCode = other >= 0 && other < codes.length ? codes[other] : 0L;
            return code < otherCode ? -1 : code > otherCode ? 1 : 0;
        }

        int classCount() {
            return classes;
        }

        int rankOf(int value) {
            return value >= 0 && value < ranks.length ? ranks[value] : 0;
        }

        boolean isFinerThan(Order other) {
            for (int one = 0; one < VALUES; one++) {
                for (int two = 0; two < VALUES; two++) {
                    if (other.compared(one, two) < 0 && compared(one, two) >= 0) {
                        return false;
                    }
                }
            }
            return true;
        }

        boolean comparesLike(Order other) {
            for (int one = 0; one < VALUES; one++) {
                for (int two = one + 1; two < VALUES; two++) {
                    if (compared(one, two) != other.compared(one, two)) {
                        return false;
                    }
                }
            }
            return true;
        }

        String told() {
            StringBuilder told = new StringBuilder();
            for (int at = 0; at < many; at++) {
                appendGap(told);
                told.append(keyOn(at)).append(isDownOn(at) ? '-' : '+');
            }
            return told.toString();
        }

        private void addStep(int key, boolean isDown) {
            if (many >= 0 && many < keys.length && many < downs.length) {
                keys[many] = key;
                downs[many] = isDown;
                many++;
            }
        }

        private void addSteps(Order source, int steps) {
            for (int at = 0; at < steps; at++) {
                addStep(source.keyOn(at), source.isDownOn(at));
            }
        }

        /** What is kept for each value must be made anew whenever the steps have changed. */
        private void settle() {
            // The numbers of a value, step by step, are the digits of its code: the first unlike
            // digit decides which of two codes is the smaller one.
            for (int value = 0; value < codes.length; value++) {
                long code = 0L;
                for (int at = 0; at < many && at < keys.length && at < downs.length; at++) {
                    int number = numberBy(keys[at], value);
                    code = code * VALUES + (downs[at] ? VALUES - 1 - number : number);
                }
                codes[value] = code;
            }
            rankAll();
        }

        private void rankAll() {
            classes = 0;
            for (int value = 0; value < ranks.length; value++) {
                ranks[value] = 0;
            }
            for (int head = 0; head < codes.length; head++) {
                if (isFirstOfClass(head)) {
                    classes++;
                    pushBackBehind(codes[head]);
                }
            }
        }

        private boolean isFirstOfClass(int value) {
            for (int earlier = 0; earlier < value && value < codes.length; earlier++) {
                if (codes[earlier] == codes[value]) {
                    return false;
                }
            }
            return true;
        }

        private void pushBackBehind(long code) {
            for (int value = 0; value < ranks.length && value < codes.length; value++) {
                if (code < codes[value]) {
                    ranks[value]++;
                }
            }
        }
    }

    /** Things, each a value and a mark, at places from 0 on. */
    private static final class Row {
        // All values at once have to stand in a row that the auditor uses.
        private static final int LONGEST = VALUES;

        private final int[] values = new int[LONGEST];
        private final int[] marks = new int[LONGEST];
        private int many = 0;

        int length() {
            return many;
        }

        int valueOn(int place) {
            return place >= 0 && place < values.length ? values[place] : 0;
        }

        int markOn(int place) {
            return place >= 0 && place < marks.length ? marks[place] : NONE;
        }

        void replace(int place, int value, int mark) {
            if (place >= 0 && place < values.length && place < marks.length) {
                values[place] = value;
                marks[place] = mark;
            }
        }

        void append(int value, int mark) {
            if (many >= 0 && many < values.length && many < marks.length) {
                values[many] = value;
                marks[many] = mark;
                many++;
            }
        }

        void insert(int place, int value, int mark) {
            if (many >= LONGEST) {
                return;
            }
            for (int at = many; at > place; at--) {
                replace(at, valueOn(at - 1), markOn(at - 1));
            }
            replace(place, value, mark);
            many++;
        }

        void remove(int place) {
            if (place < 0 || place >= many) {
                return;
            }
            many--;
            for (int at = place; at < many; at++) {
                replace(at, valueOn(at + 1), markOn(at + 1));
            }
        }

        void empty() {
            many = 0;
        }

        void becomeCopyOf(Row source) {
            int things = source.length();
            for (int place = 0; place < things; place++) {
                replace(place, source.valueOn(place), source.markOn(place));
            }
            many = things;
        }

        void becomeAllValues() {
            many = 0;
            for (int value = 0; value < VALUES; value++) {
                append(value, value);
            }
        }

        void reverse() {
            int low = 0;
            int high = many - 1;
            while (low < high) {
                exchange(low, high);
                low++;
                high--;
            }
        }

        void exchange(int one, int other) {
            int value = valueOn(one);
            int mark = markOn(one);
            replace(one, valueOn(other), markOn(other));
            replace(other, value, mark);
        }

        /** In one row no mark stands twice, so the marks tell which thing stands where. */
        int placesUnlike(Row other) {
            int sum = 0;
            for (int place = 0; place < many; place++) {
                if (markOn(place) != other.markOn(place)) {
                    sum++;
                }
            }
            return sum;
        }

        boolean isLike(Row other) {
            if (many != other.length()) {
                return false;
            }
            for (int place = 0; place < many; place++) {
                if (markOn(place) != other.markOn(place) || valueOn(place) != other.valueOn(place)) {
                    return false;
                }
            }
            return true;
        }

        boolean isInSequenceBy(Order order) {
            for (int place = 1; place < many; place++) {
                if (order.compared(valueOn(place), valueOn(place - 1)) < 0) {
                    return false;
                }
            }
            return true;
        }

        boolean hasAlike(Order order, int value) {
            for (int place = 0; place < many; place++) {
                if (order.compared(valueOn(place), value) == 0) {
                    return true;
                }
            }
            return false;
        }

        int thingsAhead(Order order, int value) {
            int sum = 0;
            for (int place = 0; place < many; place++) {
                if (order.compared(valueOn(place), value) < 0) {
                    sum++;
                }
            }
            return sum;
        }

        int firstPlaceBy(Order order) {
            int best = NONE;
            for (int place = 0; place < many; place++) {
                if (best == NONE || order.compared(valueOn(place), valueOn(best)) < 0) {
                    best = place;
                }
            }
            return best;
        }

        int lastPlaceBy(Order order) {
            int best = NONE;
            for (int place = 0; place < many; place++) {
                if (best == NONE || order.compared(valueOn(place), valueOn(best)) > 0) {
                    best = place;
                }
            }
            return best;
        }

        /** How: ahead of the value 0, or alike 1; behind it or alike 2, behind it 3. */
        int nearestPlace(Order order, int value, int how) {
            int best = NONE;
            for (int place = 0; place < many; place++) {
                if (isOnSide(order.compared(valueOn(place), value), how)
                        && (best == NONE || isNearer(order, place, best, how))) {
                    best = place;
                }
            }
            return best;
        }

        int lots(Order order) {
            int sum = 0;
            for (int place = 0; place < many; place++) {
                if (isFirstOfLot(order, place)) {
                    sum++;
                }
            }
            return sum;
        }

        int lotsAhead(Order order, int value) {
            int sum = 0;
            for (int place = 0; place < many; place++) {
                if (order.compared(valueOn(place), value) < 0 && isFirstOfLot(order, place)) {
                    sum++;
                }
            }
            return sum;
        }

        String told() {
            StringBuilder told = new StringBuilder();
            for (int place = 0; place < many; place++) {
                appendGap(told);
                told.append(valueOn(place)).append('.').append(markOn(place));
            }
            return told.toString();
        }

        String lotsTold(Order order) {
            StringBuilder told = new StringBuilder();
            for (int rank = 0; rank < order.classCount(); rank++) {
                appendLot(told, order, rank);
            }
            return told.toString();
        }

        private void appendLot(StringBuilder told, Order order, int rank) {
            int first = NONE;
            int things = 0;
            for (int place = 0; place < many; place++) {
                if (order.rankOf(valueOn(place)) == rank) {
                    first = first == NONE ? place : first;
                    things++;
                }
            }
            if (things > 0) {
                appendGap(told);
                told.append(markOn(first)).append(':').append(things);
            }
        }

        private static boolean isOnSide(int compared, int how) {
            switch (how) {
                case 0:
                    return compared < 0;
                case 1:
                    return compared <= 0;
                case 2:
                    return compared >= 0;
                default:
                    return compared > 0;
            }
        }

        private boolean isNearer(Order order, int place, int best, int how) {
            int compared = order.compared(valueOn(place), valueOn(best));
            return how <= 1 ? compared > 0 : compared < 0;
        }

        private boolean isFirstOfLot(Order order, int place) {
            for (int earlier = 0; earlier < place; earlier++) {
                if (order.compared(valueOn(earlier), valueOn(place)) == 0) {
                    return false;
                }
            }
            return true;
        }
    }

    /** Three ways to bring a row in sequence; in each of them alike things keep their sequence. */
    private static final class Sorter {
        private final Row gathered = new Row();

        void arrangeAll(Row row, Order order, int way) {
            switch (way) {
                case 0:
                    insertEach(row, order, 0, row.length());
                    break;
                case 1:
                    mergeRuns(row, order);
                    break;
                default:
                    gatherByRank(row, order);
                    break;
            }
        }

        void insertEach(Row row, Order order, int from, int to) {
            for (int next = from + 1; next < to; next++) {
                int at = next;
                while (at > from && order.compared(row.valueOn(at), row.valueOn(at - 1)) < 0) {
                    row.exchange(at, at - 1);
                    at--;
                }
            }
        }

        private void mergeRuns(Row row, Order order) {
            int many = row.length();
            for (int width = 1; width < many; width *= 2) {
                gathered.empty();
                for (int low = 0; low < many; low += 2 * width) {
                    int middle = Math.min(low + width, many);
                    mergeTwo(row, order, low, middle, Math.min(middle + width, many));
                }
                row.becomeCopyOf(gathered);
            }
        }

        private void mergeTwo(Row row, Order order, int low, int middle, int high) {
            int left = low;
            int right = middle;
            for (int i = low; i < high; i++) {
                boolean isRightNext = left >= middle || right < high
                        && order.compared(row.valueOn(right), row.valueOn(left)) < 0;
                int next = isRightNext ? right : left;
                gathered.append(row.valueOn(next), row.markOn(next));
                if (isRightNext) {
                    right++;
                } else {
                    left++;
                }
            }
        }

        private void gatherByRank(Row row, Order order) {
            gathered.empty();
            for (int rank = 0; rank < order.classCount(); rank++) {
                for (int place = 0; place < row.length(); place++) {
                    if (order.rankOf(row.valueOn(place)) == rank) {
                        gathered.append(row.valueOn(place), row.markOn(place));
                    }
                }
            }
            row.becomeCopyOf(gathered);
        }
    }

    /** Looks whether the laws of sorting hold; works on rows and an order of its own. */
    private static final class Auditor {
        private final Sorter sorter = new Sorter();
        private final Row left = new Row();
        private final Row right = new Row();
        private final Order made = new Order();

        boolean isRefiningSound(Order one, Order other) {
            boolean isFiner = one.isFinerThan(other);
            made.becomeProductOf(one, other);
            return isFiner == isFinerBySorting(one, other)
                    && (!isFiner || one.classCount() >= other.classCount())
                    && made.isFinerThan(one);
        }

        boolean isProductAlike(Row row, Order one, Order other) {
            left.becomeCopyOf(row);
            sorter.arrangeAll(left, one, 0);
            sorter.arrangeAll(left, other, 0);
            made.becomeProductOf(other, one);
            right.becomeCopyOf(row);
            sorter.arrangeAll(right, made, 0);
            return left.isLike(right);
        }

        boolean areSignsTurned(Order order) {
            for (int one = 0; one < VALUES; one++) {
                for (int two = 0; two < VALUES; two++) {
                    if (order.compared(one, two) != -order.compared(two, one)) {
                        return false;
                    }
                }
            }
            return true;
        }

        boolean areRanksAsClasses(Order order) {
            int sum = 0;
            for (int rank = 0; rank < VALUES; rank++) {
                if (isRankOfSome(order, rank)) {
                    sum++;
                }
            }
            return sum == order.classCount();
        }

        private static boolean isRankOfSome(Order order, int rank) {
            for (int value = 0; value < VALUES; value++) {
                if (order.rankOf(value) == rank) {
                    return true;
                }
            }
            return false;
        }

        private boolean isFinerBySorting(Order one, Order other) {
            left.becomeAllValues();
            sorter.insertEach(left, one, 0, left.length());
            return left.isInSequenceBy(other) && areAlikeAlike(one, other);
        }

        private static boolean areAlikeAlike(Order one, Order other) {
            for (int value = 0; value < VALUES; value++) {
                for (int second = value + 1; second < VALUES; second++) {
                    if (one.compared(value, second) == 0 && other.compared(value, second) != 0) {
                        return false;
                    }
                }
            }
            return true;
        }

        boolean areWaysAgreed(Row row, Order order) {
            left.becomeCopyOf(row);
            sorter.arrangeAll(left, order, 0);
            for (int way = 1; way < WAYS; way++) {
                right.becomeCopyOf(row);
                sorter.arrangeAll(right, order, way);
                if (!left.isLike(right)) {
                    return false;
                }
            }
            return true;
        }

        boolean staysSorted(Row row, Order order) {
            left.becomeCopyOf(row);
            sorter.arrangeAll(left, order, 0);
            right.becomeCopyOf(left);
            sorter.arrangeAll(right, order, 0);
            return left.isInSequenceBy(order) && left.isLike(right);
        }

        boolean isTurnedAlike(Row row, Order order) {
            left.becomeCopyOf(row);
            left.reverse();
            sorter.arrangeAll(left, order, 0);
            left.reverse();
            made.becomeCopyOf(order);
            made.reverse();
            right.becomeCopyOf(row);
            sorter.arrangeAll(right, made, 0);
            return left.isLike(right);
        }

        boolean isQueuedAlike(Row row, Order order) {
            left.becomeCopyOf(row);
            sorter.arrangeAll(left, order, 0);
            right.becomeCopyOf(row);
            for (int place = 0; place < left.length(); place++) {
                int next = right.firstPlaceBy(order);
                if (order.rankOf(right.valueOn(next)) != order.rankOf(left.valueOn(place))) {
                    return false;
                }
                right.remove(next);
            }
            return true;
        }
    }
}
