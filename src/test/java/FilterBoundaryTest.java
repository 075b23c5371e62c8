import java.util.ArrayList;
import java.util.List;
import java.util.TreeSet;

/**
 * The boundary cases of filters: section 3, the samples and joins of section 5, and the promises 6
 * to 16 and 30 to 35. Each part's title tells the section or promise and what it says.
 */
public final class FilterBoundaryTest {
    private static final int NULL = Bitmapstore.NULL;
    private static final int NONE = Bitmapstore.NONE;
    private static final int MAX = Integer.MAX_VALUE;
    private static final int MIN = Integer.MIN_VALUE;

    private static final Checks checks = new Checks("FilterBoundaryTest");

    public static void main(String[] args) {
        sectionThree();
        selections();
        between();
        compare();
        operations();
        contrary();
        copyOf();
        put();
        sample();
        partners();
        runPlan();
        unpack();
        counts();
        next();
        relation();
        union();
        checks.finish();
    }

    private static void isFilter(String call, Bitmapstore x, int filter, String want) {
        checks.dueText(call, Stores.filter(x, filter), want);
    }

    // ---- section 3

    private static void sectionThree() {
        checks.start("3: There are the filters 0 to 7; each is a set of rows, empty at first");
        Bitmapstore x = Stores.full();
        for (int filter = 0; filter < 8; filter++) {
            checks.due("filter " + filter, x.count(filter), 0);
            x.put(filter, 10 * filter, true);
        }
        for (int filter = 0; filter < 8; filter++) {
            isFilter("each filter is one of its own", x, filter, String.valueOf(10 * filter));
        }
        checks.dueIndex("filter 8", () -> x.count(8));
        checks.dueIndex("filter -1", () -> x.count(-1));
        checks.start("3: A new row is in none");
        Bitmapstore y = Stores.ofColumn(1, 2);
        for (int filter = 0; filter < 8; filter++) {
            y.contrary(filter);
        }
        y.addRow(1, 1, 1, 1);
        y.fill(1, 20, 5);
        for (int filter = 0; filter < 8; filter++) {
            isFilter("filter " + filter, y, filter, "0-1");
        }
        checks.start("3: when a value of a row changes, the filters stay as they are");
        y.select(0, 0, 2, 2, 0);
        y.setValue(1, 0, NULL);
        isFilter("the value is gone", y, 0, "1");
        y.setValue(0, 0, 2);
        isFilter("another row has the value", y, 0, "1");
    }

    // ---- tests

    private static boolean isSatisfied(int test, int value, int number) {
        boolean isThere = value != NULL;
        boolean[] answers = {isThere && value < number, isThere && value <= number,
            isThere && value == number, isThere && value >= number, isThere && value > number,
            isThere && value != number, !isThere, isThere};
        return answers[test];
    }

    private static void selections() {
        eachNumber();
        withoutValue();
        checks.start("promise 6: Makes a filter the set of the rows that satisfy a test");
        Bitmapstore x = Stores.ofColumn(-64, 63);
        for (int way = 0; way < 3; way++) {
            x.contrary(way);
            checks.due("rows that were in it", x.select(way, 0, 2, 63, way), 1);
            isFilter("rows that were in it", x, way, "1");
        }
        Bitmapstore empty = new Bitmapstore();
        for (int test = 0; test < 8; test++) {
            for (int way = 0; way < 3; way++) {
                checks.due("without rows", empty.select(0, 0, test, 0, way), 0);
            }
        }
        for (int number : new int[] {-65, 64, NULL, 101, MIN, MAX}) {
            for (int test = 0; test < 8; test++) {
                int one = test;
                checks.dueArgument("number " + number + ", also of test 6 and 7",
                        () -> x.select(0, 0, one, number, 0));
            }
        }
    }

    /** A value just below the number, the number, and one just above, also at both ends. */
    private static void eachNumber() {
        checks.start("3: 0 less, 1 less or equal, 2 equal, 3 greater or equal, 4 greater, 5 unlike");
        for (int number = -64; number <= 63; number++) {
            int[] values = {-64, 63, Math.max(number - 1, -64), number, Math.min(number + 1, 63),
                number / 2, NULL, -1, 0};
            Bitmapstore x = Stores.ofColumn(values);
            for (int test = 0; test < 8; test++) {
                for (int way = 0; way < 3; way++) {
                    selects(x, values, test, number, way);
                    // what was in the filter, and what was not, must not count
                    x.contrary(0);
                    selects(x, values, test, number, way);
                }
            }
        }
    }

    private static void selects(Bitmapstore x, int[] values, int test, int number, int way) {
        String call = "test " + test + ", number " + number + ", way " + way;
        int answer = x.select(0, 0, test, number, way);
        int many = 0;
        for (int row = 0; row < values.length; row++) {
            boolean isDue = isSatisfied(test, values[row], number);
            checks.due(call + ", value " + values[row], x.has(0, row), isDue);
            many += isDue ? 1 : 0;
        }
        checks.due(call, answer, many);
    }

    private static void withoutValue() {
        checks.start("3: A row without a value satisfies none of these");
        Bitmapstore x = Stores.ofColumn(NULL, NULL, NULL);
        for (int number : new int[] {-64, -1, 0, 1, 63}) {
            for (int way = 0; way < 3; way++) {
                for (int test = 0; test < 6; test++) {
                    checks.due("test " + test, x.select(0, 0, test, number, way), 0);
                }
                checks.start("3: Test 6 is that there is no value, test 7 that there is one");
                checks.due("test 6, whatever the number", x.select(0, 0, 6, number, way), 3);
                checks.due("test 7, whatever the number", x.select(0, 0, 7, number, way), 0);
            }
        }
        x.setValue(1, 0, 0);
        x.strike(2);
        for (int way = 0; way < 3; way++) {
            checks.due("0 is a value", x.select(0, 0, 7, -64, way), 1);
            isFilter("0 is a value", x, 0, "1");
            checks.due("a number that is no row", x.select(0, 0, 6, 63, way), 1);
            isFilter("a number that is no row", x, 0, "0");
        }
    }

    private static void between() {
        checks.start("promise 7: from one number to another one, both included");
        Bitmapstore x = Stores.ofColumn(-64, -63, -1, 0, 1, 62, 63, NULL);
        int[][] cases = {{-64, -64, 1}, {-64, -63, 2}, {-63, -63, 1}, {-62, -2, 0}, {-1, 0, 2},
            {0, 0, 1}, {-62, 61, 3}, {62, 63, 2}, {63, 63, 1}, {2, 61, 0}, {-64, 63, 7}};
        for (int[] one : cases) {
            checks.due(one[0] + " to " + one[1], x.between(0, 0, one[0], one[1]), one[2]);
            checks.due("count", x.count(0), one[2]);
        }
        isFilter("all rows with a value", x, 0, "0-6");
        checks.start("promise 7: if it is less than low, the filter has no rows");
        for (int[] one : new int[][] {{0, -1}, {1, 0}, {63, -64}, {63, 62}, {-63, -64}}) {
            x.contrary(0);
            checks.due(one[0] + " to " + one[1], x.between(0, 0, one[0], one[1]), 0);
            isFilter("no rows", x, 0, "");
        }
        checks.due("of a column without values", x.between(0, 1, -64, 63), 0);
        checks.due("without rows", new Bitmapstore().between(0, 0, -64, 63), 0);
        checks.dueArgument("low -65", () -> x.between(0, 0, -65, 63));
        checks.dueArgument("low 64", () -> x.between(0, 0, 64, 63));
        checks.dueArgument("high 64", () -> x.between(0, 0, -64, 64));
        checks.dueArgument("high -65, below low", () -> x.between(0, 0, -64, -65));
        checks.dueArgument("NULL", () -> x.between(0, 0, 0, NULL));
    }

    private static void compare() {
        checks.start("promise 8: satisfies a test with the value in the second one as the number");
        int[] values = {-64, -63, -33, -32, -2, -1, 0, 1, 2, 31, 32, 62, 63, NULL};
        for (int first : values) {
            for (int second : values) {
                Bitmapstore x = Stores.ofRows(new int[][] {{first, 0, second, NULL}});
                for (int test = 0; test < 6; test++) {
                    boolean isDue = second != NULL && isSatisfied(test, first, second);
                    checks.due(first + " and " + second + ", test " + test,
                            x.compare(0, 0, test, 2), isDue ? 1 : 0);
                    checks.due("promise 8: rows that have a value in both of two columns",
                            x.compare(1, 2, test, 3) + x.compare(1, 3, test, 0), 0);
                }
            }
        }
        Bitmapstore one = Stores.ofRows(new int[][] {{0, 1, -1, 0}});
        checks.due("0 and 1, less", one.compare(0, 0, 0, 1), 1);
        checks.due("then 0 and -1, less", one.compare(0, 0, 0, 2), 0);
        checks.due("then 0 and -1, greater", one.compare(0, 0, 4, 2), 1);
        checks.due("then 0 and 0, equal", one.compare(0, 0, 2, 3), 1);
        checks.due("then 0 and 1, greater or equal", one.compare(0, 0, 3, 1), 0);
        checks.start("promise 8: perhaps the same column");
        Bitmapstore x = Stores.ofColumn(-64, 63, NULL, 0, -1);
        int[] many = {0, 4, 4, 4, 0, 0};
        for (int test = 0; test < 6; test++) {
            checks.due("test " + test, x.compare(0, 0, test, 0), many[test]);
            isFilter("test " + test, x, 0, many[test] == 0 ? "" : "0-1 3-4");
        }
        checks.start("promise 8: test: 0 to 5");
        for (int test : new int[] {-1, 6, 7, 8, MIN, MAX}) {
            checks.dueArgument("test " + test, () -> x.compare(0, 0, test, 1));
            checks.dueIndex("other ahead of test", () -> x.compare(0, 0, test, 4));
        }
        checks.due("without rows", new Bitmapstore().compare(0, 0, 2, 1), 0);
    }

    // ---- filters with filters

    private static void operations() {
        checks.start("promise 9: AND, OR, XOR or AND_NOT; perhaps the same");
        String all = "0-119";
        String some = "0 63-64 119";
        String rest = "1-62 65-118";
        String[] sets = {"", all, some, rest};
        // for each two of the sets, by AND, OR, XOR, AND_NOT
        String[][][] due = {
            {{"", "", "", ""}, {"", all, all, ""}, {"", some, some, ""}, {"", rest, rest, ""}},
            {{"", all, all, all}, {all, all, "", ""}, {some, all, rest, rest},
                {rest, all, some, some}},
            {{"", some, some, some}, {some, all, rest, ""}, {some, some, "", ""},
                {"", all, all, some}},
            {{"", rest, rest, rest}, {rest, all, some, ""}, {"", all, all, rest},
                {rest, rest, "", ""}}};
        for (int first = 0; first < 4; first++) {
            for (int second = 0; second < 4; second++) {
                for (int operation = 0; operation < 4; operation++) {
                    Bitmapstore x = withSets();
                    String call = first + " " + operation + " " + second;
                    int answer = x.combine(first, operation, second);
                    isFilter(call, x, first, due[first][second][operation]);
                    checks.due(call, answer, x.count(first));
                    if (first != second) {
                        isFilter("the other one stays", x, second, sets[second]);
                    }
                }
            }
        }
        Bitmapstore x = withSets();
        checks.dueArgument("operation 4", () -> x.combine(1, 4, 2));
        checks.dueArgument("operation -1", () -> x.combine(1, -1, 2));
        checks.dueIndex("other ahead of operation", () -> x.combine(1, 4, 8));
        isFilter("refused", x, 1, all);
    }

    /** The filter 0 has no rows, 1 all of 120, 2 those at the ends and in the middle, 3 the rest. */
    private static Bitmapstore withSets() {
        Bitmapstore x = Stores.full();
        x.contrary(1);
        Stores.put(x, 2, 0, 63, 64, 119);
        x.copyOf(3, 2);
        x.contrary(3);
        return x;
    }

    private static void contrary() {
        checks.start("3: The contrary of a filter are all rows that are not in it");
        checks.due("without rows", new Bitmapstore().contrary(0), 0);
        Bitmapstore x = withSets();
        checks.due("of no rows", x.contrary(0), 120);
        checks.due("of all rows", x.contrary(1), 0);
        checks.due("of the ends", x.contrary(2), 116);
        isFilter("of the ends", x, 2, "1-62 65-118");
        checks.due("of the rest", x.contrary(3), 4);
        isFilter("of the rest", x, 3, "0 63-64 119");
        x.strike(119);
        x.strike(5);
        x.contrary(3);
        isFilter("numbers that are no rows", x, 3, "1-4 6-62 65-118");
        Bitmapstore one = Stores.ofColumn(NULL);
        checks.due("a row without values is a row", one.contrary(7), 1);
        checks.due("of the only row", one.contrary(7), 0);
    }

    private static void copyOf() {
        checks.start("promise 11: Makes a filter what another one is");
        Bitmapstore x = withSets();
        checks.due("of no rows", x.copyOf(1, 0), 0);
        isFilter("of no rows", x, 1, "");
        checks.due("itself", x.copyOf(2, 2), 4);
        isFilter("itself", x, 2, "0 63-64 119");
        checks.due("the first filter and the last one", x.copyOf(7, 2), 4);
        x.combine(2, Bitmapstore.XOR, 2);
        isFilter("is a set of its own", x, 7, "0 63-64 119");
        checks.due("over all rows", x.copyOf(0, 3), 116);
        isFilter("over no rows", x, 0, "1-62 65-118");
        x.undo();
        x.copyOf(0, 0);
        checks.start("7: are changes, even if nothing is different afterwards");
        checks.due("a copy of itself", x.undo(), 7);
    }

    private static void put() {
        checks.start("promise 12: Puts a row into a filter, or takes it out");
        Bitmapstore x = Stores.full();
        for (int row : new int[] {0, 63, 64, 119}) {
            checks.due("out, when it is not in", x.put(0, row, false), false);
            checks.due("in", x.put(0, row, true), false);
            checks.due("in again", x.put(0, row, true), true);
            isFilter("only this row", x, 0, String.valueOf(row));
            checks.due("out", x.put(0, row, false), true);
            isFilter("no row", x, 0, "");
        }
        x.strike(64);
        for (int row : new int[] {-1, 64, 120, 128, MIN, MAX}) {
            checks.dueIndex("in, row " + row, () -> x.put(0, row, true));
            checks.dueIndex("out, row " + row, () -> x.put(0, row, false));
        }
        isFilter("refused", x, 0, "");
        checks.start("7: are changes, even if nothing is different afterwards");
        x.put(1, 5, true);
        x.put(1, 5, true);
        x.undo();
        isFilter("the second call is undone", x, 1, "5");
        x.undo();
        isFilter("the first call is undone", x, 1, "");
    }

    // ---- samples and joins

    private static String sampled(TreeSet<Integer> rows, int seed, int many) {
        List<Integer> left = new ArrayList<>(rows);
        TreeSet<Integer> taken = new TreeSet<>();
        long x = Math.floorMod((long) seed, 1L << 32);
        for (int i = 0; i < many && !left.isEmpty(); i++) {
            x = (x * 1103515245L + 12345L) % (1L << 32);
            taken.add(left.remove((int) (x / 65536 % left.size())));
        }
        return taken.toString();
    }

    private static void sample() {
        checks.start("5: To take a sample of n rows of a filter, n times");
        for (int seed : new int[] {0, 1, -1, MAX, MIN, 12345, -98765}) {
            for (int many : new int[] {0, 1, 2, 59, 60, 61, 119, 120}) {
                Bitmapstore x = Stores.full();
                TreeSet<Integer> rows = new TreeSet<>();
                for (int row = 1; row < 120; row += 2) {
                    x.put(0, row, true);
                    rows.add(row);
                }
                checks.due("as long as there are rows left", x.sample(0, seed, many),
                        Math.min(many, 60));
                TreeSet<Integer> got = new TreeSet<>();
                for (int row = 0; row < 120; row++) {
                    if (x.has(0, row)) {
                        got.add(row);
                    }
                }
                checks.dueText("seed " + seed + ", many " + many, got.toString(),
                        sampled(rows, seed, many));
            }
        }
        Bitmapstore x = Stores.full();
        checks.due("of no rows", x.sample(0, 1, 120), 0);
        x.contrary(0);
        checks.due("of all rows", x.sample(0, 1, 120), 120);
        checks.due("without rows", new Bitmapstore().sample(0, 1, 1), 0);
        checks.start("promise 13: many: 0 to 120");
        for (int many : new int[] {-1, 121, MIN, MAX}) {
            checks.dueArgument("many " + many, () -> x.sample(0, 1, many));
            checks.dueIndex("filter ahead of many", () -> x.sample(8, 1, many));
        }
        checks.due("refused", x.count(0), 120);
        checks.due("many 0", x.sample(0, 1, 0), 0);
        isFilter("many 0", x, 0, "");
        checks.start("7: are changes, even if nothing is different afterwards");
        x.sample(0, 1, 5);
        checks.due("a sample of no rows", x.undo(), 7);
        isFilter("a sample of no rows", x, 0, "");
        x.undo();
        checks.due("the sample ahead of it", x.count(0), 120);
    }

    private static void partners() {
        checks.start("5: a row of the first filter and a row of the second one (perhaps the same)");
        Bitmapstore x = Stores.ofRows(new int[][] {
            {-64, 63, NULL, 0}, {63, -64, NULL, NULL}, {NULL, NULL, 0, 0}, {0, 5, NULL, 1}});
        x.contrary(0);
        checks.due("each row with itself", x.partners(1, 0, 0, 0, 0), 3);
        isFilter("each row with itself", x, 1, "0-1 3");
        checks.due("the outermost values", x.partners(1, 0, 0, 1, 0), 2);
        isFilter("the outermost values", x, 1, "0-1");
        checks.due("into the second one", x.partners(1, 0, 0, 0, 1), 2);
        checks.start("5: NULL is not the same as NULL here");
        checks.due("a NULL in each", x.partners(2, 2, 0, 1, 0), 0);
        checks.due("NULL with itself", x.partners(2, 2, 0, 2, 0), 1);
        isFilter("NULL with itself", x, 2, "2");
        checks.due("0 and NULL", x.partners(2, 3, 0, 2, 0), 2);
        isFilter("0 and NULL", x, 2, "0 2");
        checks.start("promise 14: the rows of a filter that are in a pair of a join");
        checks.due("the first one is empty", x.partners(2, 0, 7, 0, 0), 0);
        checks.due("the second one is empty", x.partners(2, 0, 0, 0, 7), 0);
        Stores.put(x, 3, 0);
        checks.due("into the first one", x.partners(3, 0, 3, 1, 0), 1);
        isFilter("into the first one", x, 3, "0");
        isFilter("the second one stays", x, 0, "0-3");
        x.copyOf(4, 0);
        checks.due("into both", x.partners(4, 3, 4, 2, 4), 2);
        isFilter("into both", x, 4, "0 2");
        checks.due("into the filter 7, which was empty", x.partners(7, 3, 0, 3, 0), 3);
        isFilter("into the filter 7", x, 7, "0 2-3");
        Bitmapstore full = Stores.full();
        full.contrary(0);
        checks.due("each row of a full store", full.partners(1, 0, 0, 1, 0), 112);
        isFilter("each row of a full store", full, 1, "8-119");
    }

    // ---- plans and packed sets

    private static void runsPlan(String call, Bitmapstore x, int filter, int many, String want) {
        checks.due(call, x.runPlan(filter), many);
        isFilter(call, x, filter, want);
        x.contrary(filter);
        checks.due(call + ", over the contrary", x.runPlan(filter), many);
        isFilter(call + ", over the contrary", x, filter, want);
    }

    private static void runPlan() {
        checks.start("6: each row, if there are none");
        Bitmapstore x = Stores.full();
        runsPlan("all rows", x, 0, 120, "0-119");
        runsPlan("without rows", new Bitmapstore(), 7, 0, "");
        x.strike(3);
        runsPlan("only rows", x, 0, 119, "0-2 4-119");
        checks.start("6: A row satisfies the plan if it satisfies all of them");
        x.addCondition(0, 3, -64);
        x.addCondition(1, 1, 63);
        x.addCondition(2, 6, 0);
        runsPlan("that all satisfy", x, 1, 119, "0-2 4-119");
        x.addCondition(0, 1, -54);
        runsPlan("the fourth one", x, 1, 10, "0-2 4-10");
        x.dropCondition(0);
        x.addCondition(1, 2, 61);
        runsPlan("another fourth one", x, 1, 1, "2");
        x.dropCondition(3);
        x.addCondition(0, 4, 63);
        runsPlan("that no row satisfies", x, 1, 0, "");
        x.dropCondition(3);
        x.addCondition(2, 5, 0);
        runsPlan("rows without a value", x, 0, 0, "");
        x.dropCondition(3);
        x.dropCondition(2);
        x.dropCondition(0);
        runsPlan("one is left", x, 0, 119, "0-2 4-119");
        x.addCondition(2, 7, 0);
        runsPlan("that exclude each other", x, 0, 0, "");
        checks.dueIndex("filter 8", () -> x.runPlan(8));
        checks.dueIndex("filter -1", () -> x.runPlan(-1));
        eachOfFour();
    }

    /** Each of four conditions keeps a row out that all the other ones let in. */
    private static void eachOfFour() {
        checks.start("6: all of them, each of four");
        Bitmapstore x = Stores.ofRows(new int[][] {{0, 1, 1, 1}, {1, 0, 1, 1}, {1, 1, 0, 1},
            {1, 1, 1, 0}, {1, 1, 1, 1}});
        for (int column = 0; column < 4; column++) {
            x.addCondition(column, 2, 1);
        }
        runsPlan("all four", x, 5, 1, "4");
        for (int column = 0; column < 4; column++) {
            x.dropCondition(0);
            runsPlan("without that of " + column, x, 5, 2, column + (column == 3 ? "-4" : " 4"));
            x.addCondition(column, 2, 1);
        }
    }

    private static void unpack() {
        checks.start("promise 16: the numbers of a packed set that are rows");
        Bitmapstore x = Stores.full();
        x.contrary(0);
        checks.due("an empty one", x.unpack(0, 3), 0);
        isFilter("an empty one", x, 0, "");
        x.contraryPacked(3);
        checks.due("all numbers", x.unpack(0, 3), 120);
        x.strike(0);
        x.strike(64);
        x.strike(119);
        checks.due("numbers that are no rows", x.unpack(0, 3), 117);
        isFilter("numbers that are no rows", x, 0, "1-63 65-118");
        x.addRow(1, 1, 1, 1);
        isFilter("3: A new row is in none", x, 0, "1-63 65-118");
        checks.due("a number that is a row again", x.unpack(0, 3), 118);
        Bitmapstore empty = new Bitmapstore();
        empty.contraryPacked(0);
        checks.due("without rows", empty.unpack(0, 0), 0);
        isFilter("without rows", empty, 0, "");
        checks.dueIndex("packed 4", () -> x.unpack(0, 4));
        checks.dueIndex("packed -1", () -> x.unpack(0, -1));
        checks.dueIndex("filter 8", () -> x.unpack(8, 0));
    }

    // ---- questions

    private static void counts() {
        checks.start("promise 30: how many there are");
        Bitmapstore x = withSets();
        checks.due("none", x.count(0), 0);
        checks.due("all", x.count(1), 120);
        checks.start("promise 31: from from on, and less than to");
        int[][] cases = {{0, 0, 0}, {0, 1, 1}, {1, 1, 0}, {0, 63, 1}, {0, 64, 2}, {63, 64, 1},
            {63, 65, 2}, {64, 65, 1}, {65, 119, 0}, {65, 120, 1}, {119, 119, 0}, {119, 120, 1},
            {120, 120, 0}, {119, MAX, 1}, {120, MAX, 0}, {MAX, MAX, 0}, {0, MAX, 4}, {64, 128, 2},
            {128, 192, 0}};
        for (int[] one : cases) {
            checks.due(one[0] + " to " + one[1], x.countIn(2, one[0], one[1]), one[2]);
            checks.due("of no rows", x.countIn(0, one[0], one[1]), 0);
        }
        checks.due("of all rows", x.countIn(1, 0, 120), 120);
        checks.start("promise 31: from or to is below 0, or from is greater than to");
        int[][] refused = {{-1, 0}, {-1, -1}, {0, -1}, {MIN, MAX}, {MIN, MIN}, {0, MIN}, {1, 0},
            {120, 119}, {MAX, 0}, {MAX, MAX - 1}};
        for (int[] one : refused) {
            checks.dueIndex(one[0] + " to " + one[1], () -> x.countIn(1, one[0], one[1]));
        }
        checks.dueIndex("no such filter", () -> x.countIn(8, 0, 1));
        checks.start("promise 32: true if it is a row of the filter");
        for (int number : new int[] {0, 63, 64, 119}) {
            checks.due("row " + number, x.has(2, number), true);
            checks.due("row " + number + " of the rest", x.has(3, number), false);
        }
        for (int number : new int[] {120, 127, 128, 183, 191, 1 << 30, MAX}) {
            checks.due("any number from 0 on: " + number, x.has(1, number), false);
        }
        for (int number : new int[] {-1, -64, MIN}) {
            checks.dueIndex("row is below 0: " + number, () -> x.has(1, number));
        }
        checks.dueIndex("no such filter, far above", () -> x.has(8, MAX));
    }

    private static void next() {
        checks.start("promise 33: which is looked at first; NONE without one");
        Bitmapstore x = withSets();
        int[] numbers = {0, 1, 62, 63, 64, 65, 118, 119, 120, 128, MAX - 1, MAX};
        int[] up = {0, 63, 63, 63, 64, 119, 119, 119, NONE, NONE, NONE, NONE};
        int[] down = {0, 0, 0, 63, 64, 64, 64, 119, 119, 119, 119, 119};
        for (int i = 0; i < numbers.length; i++) {
            checks.due("up from " + numbers[i], x.next(2, numbers[i], true), up[i]);
            checks.due("down from " + numbers[i], x.next(2, numbers[i], false), down[i]);
            checks.due("up, of no rows", x.next(0, numbers[i], true), NONE);
            checks.due("down, of no rows", x.next(0, numbers[i], false), NONE);
        }
        checks.due("down from 0, which is not in", x.next(3, 0, false), NONE);
        checks.due("up from 119, which is not in", x.next(3, 119, true), NONE);
        checks.due("down from 119, which is not in", x.next(3, 119, false), 118);
        for (int number : new int[] {-1, MIN}) {
            checks.dueIndex("row is below 0, up", () -> x.next(2, number, true));
            checks.dueIndex("row is below 0, down", () -> x.next(2, number, false));
        }
        checks.dueIndex("no such filter", () -> x.next(-1, 0, true));
    }

    private static void relation() {
        checks.start("promise 34: 1 a row in common, 2 all rows of the first one, 4 equal");
        Bitmapstore x = withSets();
        int[][] due = {{6, 2, 2, 2}, {0, 7, 1, 1}, {0, 3, 7, 0}, {0, 3, 0, 7}};
        for (int first = 0; first < 4; first++) {
            for (int second = 0; second < 4; second++) {
                checks.due(first + " to " + second, x.relation(first, second), due[first][second]);
            }
        }
        checks.due("two empty ones", x.relation(6, 7), 6);
        x.copyOf(4, 2);
        checks.due("two equal ones", x.relation(4, 2), 7);
        x.put(4, 119, false);
        checks.due("one row less", x.relation(4, 2), 3);
        checks.due("one row more", x.relation(2, 4), 1);
        x.put(4, 118, true);
        checks.due("another row", x.relation(4, 2), 1);
        checks.due("without rows", new Bitmapstore().relation(0, 7), 6);
    }

    private static void union() {
        checks.start("promise 35: the rows that are in at least one of three filters");
        Bitmapstore x = withSets();
        checks.due("none", x.union(0, 0, 0), 0);
        checks.due("all, thrice", x.union(1, 1, 1), 120);
        checks.due("all of a half and a half", x.union(2, 3, 0), 120);
        checks.due("all and parts of it", x.union(1, 2, 3), 120);
        checks.due("one, twice", x.union(2, 0, 2), 4);
        checks.due("the first one", x.union(3, 0, 0), 116);
        checks.due("the second one", x.union(0, 3, 0), 116);
        checks.due("the third one", x.union(0, 0, 3), 116);
        checks.dueIndex("third 8", () -> x.union(0, 0, 8));
        checks.dueIndex("second -1", () -> x.union(0, -1, 0));
        checks.dueIndex("first 8", () -> x.union(8, 0, 0));
    }
}
