import java.util.ArrayDeque;
import java.util.ArrayList;
import java.util.Arrays;
import java.util.Collections;
import java.util.Comparator;
import java.util.Deque;
import java.util.HashMap;
import java.util.List;
import java.util.Map;
import java.util.NoSuchElementException;
import java.util.TreeMap;
import java.util.TreeSet;
import java.util.function.IntPredicate;

/** What the document says, by a look at each row, to be compared with Bitmapstore. */
final class Model {
    private static final int NONE = -1;
    private static final int NULL = 100;
    private static final int ALL = 101;

    private TreeMap<Integer, int[]> rows = new TreeMap<>();
    private List<TreeSet<Integer>> filters = emptySets(8);
    private List<TreeSet<Integer>> packed = emptySets(4);
    private List<int[]> conditions = new ArrayList<>();
    private final Deque<Model> earlier = new ArrayDeque<>();
    private List<int[]> groups = new ArrayList<>();

    private static List<TreeSet<Integer>> emptySets(int many) {
        List<TreeSet<Integer>> sets = new ArrayList<>();
        for (int i = 0; i < many; i++) {
            sets.add(new TreeSet<>());
        }
        return sets;
    }

    // ---- what a call needs

    private static void index(boolean isFine) {
        if (!isFine) {
            throw new IndexOutOfBoundsException();
        }
    }

    private static void argument(boolean isFine) {
        if (!isFine) {
            throw new IllegalArgumentException();
        }
    }

    private static void state(boolean isFine) {
        if (!isFine) {
            throw new IllegalStateException();
        }
    }

    private static boolean isIn(int number, int low, int high) {
        return low <= number && number <= high;
    }

    private static void column(int column) {
        index(isIn(column, 0, 3));
    }

    private static void filter(int filter) {
        index(isIn(filter, 0, 7));
    }

    private static void packedSet(int set) {
        index(isIn(set, 0, 3));
    }

    private static void number(int number) {
        argument(isIn(number, -64, 63));
    }

    private static void cell(int value) {
        argument(value == NULL || isIn(value, -64, 63));
    }

    private void change() {
        Model copy = new Model();
        rows.forEach((row, cells) -> copy.rows.put(row, cells.clone()));
        for (int i = 0; i < 8; i++) {
            copy.filters.get(i).addAll(filters.get(i));
        }
        for (int i = 0; i < 4; i++) {
            copy.packed.get(i).addAll(packed.get(i));
        }
        copy.conditions.addAll(conditions);
        earlier.addLast(copy);
        if (earlier.size() > 8) {
            earlier.removeFirst();
        }
    }

    // ---- changes

    int addRow(int first, int second, int third, int fourth) {
        cell(first);
        cell(second);
        cell(third);
        cell(fourth);
        state(rows.size() < 120);
        change();
        return newRow(new int[] {first, second, third, fourth});
    }

    private int newRow(int[] cells) {
        int row = 0;
        while (rows.containsKey(row)) {
            row++;
        }
        rows.put(row, cells);
        return row;
    }

    private static int stepped(int x) {
        return x * 1103515245 + 12345;
    }

    private static int drawn(int x, int n) {
        return (x >>> 16) % n;
    }

    int fill(int seed, int many, int spread) {
        argument(isIn(many, 1, 20));
        argument(isIn(spread, 1, 64));
        state(rows.size() + many <= 120);
        change();
        int x = seed;
        for (int i = 0; i < many; i++) {
            int[] cells = new int[4];
            for (int column = 0; column < 4; column++) {
                x = stepped(x);
                if (drawn(x, 8) == 0) {
                    cells[column] = NULL;
                } else {
                    x = stepped(x);
                    cells[column] = drawn(x, 2 * spread) - spread;
                }
            }
            newRow(cells);
        }
        return rows.size();
    }

    int setValue(int row, int column, int value) {
        index(rows.containsKey(row));
        column(column);
        cell(value);
        change();
        int was = rows.get(row)[column];
        rows.get(row)[column] = value;
        return was;
    }

    int strike(int row) {
        index(rows.containsKey(row));
        change();
        rows.remove(row);
        int left = 0;
        for (TreeSet<Integer> set : filters) {
            if (set.remove(row)) {
                left++;
            }
        }
        return left;
    }

    private static boolean isSatisfied(int test, int value, int number) {
        if (test == 6 || test == 7) {
            return (value == NULL) == (test == 6);
        }
        if (value == NULL) {
            return false;
        }
        switch (test) {
            case 0: return value < number;
            case 1: return value <= number;
            case 2: return value == number;
            case 3: return value >= number;
            case 4: return value > number;
            default: return value != number;
        }
    }

    private int become(int filter, IntPredicate test) {
        TreeSet<Integer> found = new TreeSet<>();
        for (int row : rows.keySet()) {
            if (test.test(row)) {
                found.add(row);
            }
        }
        filters.set(filter, found);
        return found.size();
    }

    int select(int filter, int column, int test, int number, int way) {
        filter(filter);
        column(column);
        argument(isIn(test, 0, 7));
        number(number);
        argument(isIn(way, 0, 2));
        change();
        return become(filter, row -> isSatisfied(test, rows.get(row)[column], number));
    }

    int between(int filter, int column, int low, int high) {
        filter(filter);
        column(column);
        number(low);
        number(high);
        change();
        return become(filter, row -> isIn(rows.get(row)[column], low, high));
    }

    int compare(int filter, int column, int test, int other) {
        filter(filter);
        column(column);
        column(other);
        argument(isIn(test, 0, 5));
        change();
        return become(filter, row -> rows.get(row)[other] != NULL
                && isSatisfied(test, rows.get(row)[column], rows.get(row)[other]));
    }

    private static TreeSet<Integer> combined(TreeSet<Integer> one, int operation,
            TreeSet<Integer> two) {
        TreeSet<Integer> result = new TreeSet<>();
        for (int number = 0; number < 120; number++) {
            boolean a = one.contains(number);
            boolean b = two.contains(number);
            boolean[] answers = {a && b, a || b, a != b, a && !b};
            if (answers[operation]) {
                result.add(number);
            }
        }
        return result;
    }

    int combine(int filter, int operation, int other) {
        filter(filter);
        filter(other);
        argument(isIn(operation, 0, 3));
        change();
        filters.set(filter, combined(filters.get(filter), operation, filters.get(other)));
        return filters.get(filter).size();
    }

    int contrary(int filter) {
        filter(filter);
        change();
        TreeSet<Integer> was = filters.get(filter);
        return become(filter, row -> !was.contains(row));
    }

    int copyOf(int filter, int other) {
        filter(filter);
        filter(other);
        change();
        filters.set(filter, new TreeSet<>(filters.get(other)));
        return filters.get(filter).size();
    }

    boolean put(int filter, int row, boolean isIn) {
        filter(filter);
        index(rows.containsKey(row));
        change();
        return isIn ? !filters.get(filter).add(row) : filters.get(filter).remove(row);
    }

    int sample(int filter, int seed, int many) {
        filter(filter);
        argument(isIn(many, 0, 120));
        change();
        List<Integer> left = new ArrayList<>(filters.get(filter));
        TreeSet<Integer> taken = new TreeSet<>();
        int x = seed;
        for (int i = 0; i < many && !left.isEmpty(); i++) {
            x = stepped(x);
            taken.add(left.remove(drawn(x, left.size())));
        }
        filters.set(filter, taken);
        return taken.size();
    }

    private List<int[]> pairs(int column, int filter, int otherColumn, int other) {
        List<int[]> pairs = new ArrayList<>();
        for (int row : filters.get(filter)) {
            for (int partner : filters.get(other)) {
                int value = rows.get(row)[column];
                if (value != NULL && value == rows.get(partner)[otherColumn]) {
                    pairs.add(new int[] {row, partner});
                }
            }
        }
        return pairs;
    }

    int partners(int into, int column, int filter, int otherColumn, int other) {
        filter(into);
        column(column);
        filter(filter);
        column(otherColumn);
        filter(other);
        change();
        TreeSet<Integer> found = new TreeSet<>();
        for (int[] pair : pairs(column, filter, otherColumn, other)) {
            found.add(pair[0]);
        }
        filters.set(into, found);
        return found.size();
    }

    private boolean isSatisfied(int[] condition, int row) {
        return isSatisfied(condition[1], rows.get(row)[condition[0]], condition[2]);
    }

    int runPlan(int filter) {
        filter(filter);
        change();
        return become(filter, row -> conditions.stream().allMatch(c -> isSatisfied(c, row)));
    }

    int unpack(int filter, int set) {
        filter(filter);
        packedSet(set);
        change();
        return become(filter, row -> packed.get(set).contains(row));
    }

    int pack(int set, int filter) {
        packedSet(set);
        filter(filter);
        change();
        packed.set(set, new TreeSet<>(filters.get(filter)));
        return runsOf(set).size();
    }

    int combinePacked(int set, int operation, int other) {
        packedSet(set);
        packedSet(other);
        argument(isIn(operation, 0, 3));
        change();
        packed.set(set, combined(packed.get(set), operation, packed.get(other)));
        return runsOf(set).size();
    }

    int contraryPacked(int set) {
        packedSet(set);
        change();
        TreeSet<Integer> result = new TreeSet<>();
        for (int number = 0; number < 120; number++) {
            if (!packed.get(set).contains(number)) {
                result.add(number);
            }
        }
        packed.set(set, result);
        return runsOf(set).size();
    }

    int addCondition(int column, int test, int number) {
        column(column);
        argument(isIn(test, 0, 7));
        number(number);
        state(conditions.size() < 4);
        change();
        conditions.add(new int[] {column, test, number});
        return conditions.size() - 1;
    }

    int dropCondition(int condition) {
        index(isIn(condition, 0, conditions.size() - 1));
        change();
        conditions.remove(condition);
        return conditions.size();
    }

    int undo() {
        state(!earlier.isEmpty());
        Model was = earlier.removeLast();
        rows = was.rows;
        filters = was.filters;
        packed = was.packed;
        conditions = was.conditions;
        return earlier.size();
    }

    // ---- rows and columns

    int rows() {
        return rows.size();
    }

    private static int orNone(Integer found) {
        return found == null ? NONE : found;
    }

    int nextRow(int row) {
        index(row >= 0);
        return orNone(rows.ceilingKey(row));
    }

    int valueAt(int row, int column) {
        index(rows.containsKey(row));
        column(column);
        return rows.get(row)[column];
    }

    private TreeSet<Integer> valuesOf(int column) {
        TreeSet<Integer> found = new TreeSet<>();
        for (int[] cells : rows.values()) {
            if (cells[column] != NULL) {
                found.add(cells[column]);
            }
        }
        return found;
    }

    int values(int column) {
        column(column);
        return valuesOf(column).size();
    }

    int outermost(int column, boolean isGreatest) {
        column(column);
        TreeSet<Integer> found = valuesOf(column);
        if (found.isEmpty()) {
            throw new NoSuchElementException();
        }
        return isGreatest ? found.last() : found.first();
    }

    int beside(int column, int number, boolean isAbove) {
        column(column);
        TreeSet<Integer> found = valuesOf(column);
        Integer value = isAbove ? found.higher(number) : found.lower(number);
        return value == null ? NULL : value;
    }

    int kept(int column, int way, int which) {
        column(column);
        argument(isIn(way, 0, 2));
        argument(way == 0 ? isIn(which, -64, 63) : isIn(which, 0, 7));
        int many = 0;
        for (int[] cells : rows.values()) {
            int value = cells[column];
            boolean isKept = way == 0 ? value == which
                    : way == 1 ? value < -64 + 16 * which
                    : which == 7 || hasDigit(value, which);
            if (value != NULL && isKept) {
                many++;
            }
        }
        return many;
    }

    private static boolean hasDigit(int value, int digit) {
        return digit == 6 ? value < 0 : (value < 0 ? value + 64 : value) / (1 << digit) % 2 == 1;
    }

    // ---- filters

    int count(int filter) {
        filter(filter);
        return filters.get(filter).size();
    }

    int countIn(int filter, int from, int to) {
        filter(filter);
        index(from >= 0 && to >= 0 && from <= to);
        return filters.get(filter).subSet(from, to).size();
    }

    boolean has(int filter, int row) {
        filter(filter);
        index(row >= 0);
        return filters.get(filter).contains(row);
    }

    int next(int filter, int row, boolean isUp) {
        filter(filter);
        index(row >= 0);
        return orNone(isUp ? filters.get(filter).ceiling(row) : filters.get(filter).floor(row));
    }

    int relation(int filter, int other) {
        filter(filter);
        filter(other);
        TreeSet<Integer> one = filters.get(filter);
        TreeSet<Integer> two = filters.get(other);
        return (Collections.disjoint(one, two) ? 0 : 1) + (two.containsAll(one) ? 2 : 0)
                + (one.equals(two) ? 4 : 0);
    }

    int union(int first, int second, int third) {
        filter(first);
        filter(second);
        filter(third);
        TreeSet<Integer> all = new TreeSet<>(filters.get(first));
        all.addAll(filters.get(second));
        all.addAll(filters.get(third));
        return all.size();
    }

    // ---- told from sets

    private List<Integer> sortedValues(int filter, int column) {
        filter(filter);
        column(column);
        List<Integer> found = new ArrayList<>();
        for (int row : filters.get(filter)) {
            if (rows.get(row)[column] != NULL) {
                found.add(rows.get(row)[column]);
            }
        }
        Collections.sort(found);
        return found;
    }

    int sum(int filter, int column) {
        return sortedValues(filter, column).stream().mapToInt(value -> value).sum();
    }

    int least(int filter, int column, int k) {
        List<Integer> found = sortedValues(filter, column);
        return isIn(k, 0, found.size() - 1) ? found.get(k) : NULL;
    }

    int middle(int filter, int column) {
        List<Integer> found = sortedValues(filter, column);
        return found.isEmpty() ? NULL : found.get((found.size() - 1) / 2);
    }

    int top(int filter, int column, int place) {
        filter(filter);
        column(column);
        List<Integer> order = new ArrayList<>(filters.get(filter));
        order.removeIf(row -> rows.get(row)[column] == NULL);
        order.sort(Comparator.<Integer>comparingInt(row -> -rows.get(row)[column])
                .thenComparingInt(row -> row));
        return isIn(place, 0, order.size() - 1) ? order.get(place) : NONE;
    }

    int unlike(int filter, int column) {
        return new TreeSet<>(sortedValues(filter, column)).size();
    }

    int join(int column, int filter, int otherColumn, int other) {
        column(column);
        filter(filter);
        column(otherColumn);
        filter(other);
        return pairs(column, filter, otherColumn, other).size();
    }

    int rollup(int filter, int columns) {
        filter(filter);
        argument(isIn(columns, 1, 15));
        Map<List<Integer>, Integer> found = new HashMap<>();
        int[] told = java.util.stream.IntStream.range(0, 4)
                .filter(column -> (columns & 1 << column) != 0).toArray();
        for (int row : filters.get(filter)) {
            for (int counting = 0; counting <= told.length; counting++) {
                Integer[] key = {ALL, ALL, ALL, ALL};
                for (int i = 0; i < counting; i++) {
                    key[told[i]] = rows.get(row)[told[i]];
                }
                found.merge(Arrays.asList(key), 1, Integer::sum);
            }
        }
        groups = new ArrayList<>();
        found.forEach((key, many) -> groups.add(new int[] {
            key.get(0), key.get(1), key.get(2), key.get(3), many}));
        groups.sort(Arrays::compare);
        return groups.size();
    }

    int groupAt(int group, int what) {
        index(isIn(group, 0, groups.size() - 1));
        argument(isIn(what, 0, 4));
        return groups.get(group)[what];
    }

    // ---- packed sets

    /** The first number and the length of each run. */
    private List<int[]> runsOf(int set) {
        List<int[]> runs = new ArrayList<>();
        for (int number : packed.get(set)) {
            int[] last = runs.isEmpty() ? null : runs.get(runs.size() - 1);
            if (last != null && last[0] + last[1] == number) {
                last[1]++;
            } else {
                runs.add(new int[] {number, 1});
            }
        }
        return runs;
    }

    int runs(int set) {
        packedSet(set);
        return runsOf(set).size();
    }

    int runAt(int set, int run, boolean isLength) {
        packedSet(set);
        index(isIn(run, 0, runsOf(set).size() - 1));
        return runsOf(set).get(run)[isLength ? 1 : 0];
    }

    boolean hasPacked(int set, int number) {
        packedSet(set);
        return packed.get(set).contains(number);
    }

    // ---- plans

    int conditions() {
        return conditions.size();
    }

    private int satisfying(int condition) {
        int many = 0;
        for (int row : rows.keySet()) {
            if (isSatisfied(conditions.get(condition), row)) {
                many++;
            }
        }
        return many;
    }

    int conditionAt(int condition, int what) {
        index(isIn(condition, 0, conditions.size() - 1));
        argument(isIn(what, 0, 5));
        if (what < 3) {
            return conditions.get(condition)[what];
        }
        if (what == 3) {
            return satisfying(condition);
        }
        if (what == 4) {
            int least = leastCost(condition);
            return cost(condition, 0) == least ? 0 : cost(condition, 1) == least ? 1 : 2;
        }
        List<Integer> order = new ArrayList<>();
        for (int i = 0; i < conditions.size(); i++) {
            order.add(i);
        }
        order.sort(Comparator.comparingInt(this::satisfying));
        return order.indexOf(condition);
    }

    private int leastCost(int condition) {
        return Math.min(cost(condition, 0), Math.min(cost(condition, 1), cost(condition, 2)));
    }

    int cost(int condition, int way) {
        index(isIn(condition, 0, conditions.size() - 1));
        argument(isIn(way, 0, 2));
        int test = conditions.get(condition)[1];
        int number = conditions.get(condition)[2];
        TreeSet<Integer> found = valuesOf(conditions.get(condition)[0]);
        if (test >= 6) {
            return 1;
        }
        if (way == 0) {
            found.removeIf(value -> !isSatisfied(test, value, number));
            return found.size();
        }
        if (way == 2) {
            return new int[] {14, 14, 7, 15, 15, 8}[test];
        }
        int g = -64;
        while (g + 16 <= number) {
            g += 16;
        }
        int n = found.subSet(g, number).size();
        int e = found.contains(number) ? 1 : 0;
        return new int[] {1 + n, 1 + n + e, 3 + 2 * n + e, 2 + n, 2 + n + e, 4 + 2 * n + e}[test];
    }

    int planCost() {
        int total = Math.max(conditions.size() - 1, 0);
        for (int i = 0; i < conditions.size(); i++) {
            total += leastCost(i);
        }
        return total;
    }

    // ---- measures

    double mean(int filter, int column) {
        List<Integer> found = sortedValues(filter, column);
        return found.isEmpty() ? 0.0 : (double) sum(filter, column) / (double) found.size();
    }

    float share(int filter) {
        filter(filter);
        return rows.isEmpty() ? 0.0f : (float) filters.get(filter).size() / (float) rows.size();
    }

    int errors() {
        return 0;
    }
}
