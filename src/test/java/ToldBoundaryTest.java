/**
 * The boundary cases of what is told from sets: the order of section 3, the groups and joins of
 * section 5, and the promises 36 to 43 and 51 to 53. Each part's title tells the section or promise
 * and what it says.
 */
public final class ToldBoundaryTest {
    private static final int NULL = Bitmapstore.NULL;
    private static final int NONE = Bitmapstore.NONE;
    private static final int ALL = Bitmapstore.ALL;
    private static final int MAX = Integer.MAX_VALUE;
    private static final int MIN = Integer.MIN_VALUE;

    private static final Checks checks = new Checks("ToldBoundaryTest");

    public static void main(String[] args) {
        sum();
        least();
        middle();
        top();
        unlike();
        join();
        groups();
        keptGroups();
        mean();
        share();
        errors();
        checks.finish();
    }

    /** All rows are in the filter 0. */
    private static Bitmapstore ofColumn(int... values) {
        Bitmapstore x = Stores.ofColumn(values);
        x.contrary(0);
        return x;
    }

    /** 120 rows, all in the filter 0, with the same value in the column 0. */
    private static Bitmapstore alike(int value) {
        int[] values = new int[120];
        java.util.Arrays.fill(values, value);
        return ofColumn(values);
    }

    // ---- sums and orders

    private static void sum() {
        checks.start("promise 36: rows without one do not count");
        checks.due("all without", ofColumn(NULL, NULL).sum(0, 0), 0);
        checks.due("some without", ofColumn(NULL, -64, NULL, 63, NULL).sum(0, 0), -1);
        checks.start("promise 36: Returns the sum of the values of its rows");
        checks.due("the least one", alike(-64).sum(0, 0), -7680);
        checks.due("the greatest one", alike(63).sum(0, 0), 7560);
        checks.due("-1", alike(-1).sum(0, 0), -120);
        checks.due("0", alike(0).sum(0, 0), 0);
        checks.due("of no rows", alike(63).sum(1, 0), 0);
        checks.due("without rows", new Bitmapstore().sum(7, 3), 0);
        for (int value = -64; value <= 63; value++) {
            checks.due("of one row", ofColumn(value).sum(0, 0), value);
        }
        Bitmapstore x = ofColumn(5, 6, 7);
        x.put(0, 1, false);
        checks.due("rows that are not in it", x.sum(0, 0), 12);
    }

    private static void least() {
        checks.start("promise 37: from 0; each row counts one, also of like values");
        Bitmapstore x = ofColumn(63, NULL, -64, 0, -64, -1, 63, 0);
        int[] due = {-64, -64, -1, 0, 0, 63, 63};
        for (int k = 0; k < due.length; k++) {
            checks.due("k " + k, x.least(0, 0, k), due[k]);
        }
        checks.start("promise 37: NULL if there are not so many rows with a value, or k is below 0");
        for (int k : new int[] {7, 8, 120, 128, MAX, -1, -7, -128, MIN}) {
            checks.due("k " + k, x.least(0, 0, k), NULL);
        }
        checks.due("without values", x.least(0, 1, 0), NULL);
        checks.due("of no rows", x.least(1, 0, 0), NULL);
        checks.due("without rows", new Bitmapstore().least(0, 0, 0), NULL);
        checks.due("the last of 120", Stores.full().least(0, 0, 119), NULL);
        Bitmapstore full = Stores.full();
        full.contrary(0);
        for (int k = 0; k < 120; k++) {
            checks.due("of 120, k " + k, full.least(0, 0, k), k - 64);
            checks.due("of 120, the other way, k " + k, full.least(0, 1, k), k - 56);
        }
        checks.due("of 120, k 120", full.least(0, 0, 120), NULL);
        checks.dueIndex("filter 8, k -1", () -> full.least(8, 0, -1));
        checks.dueIndex("column 4, k far above", () -> full.least(0, 4, MAX));
        for (int value = -64; value <= 63; value++) {
            checks.due("of one row", ofColumn(value).least(0, 0, 0), value);
            checks.due("behind the one row", ofColumn(value).least(0, 0, 1), NULL);
        }
    }

    private static void middle() {
        checks.start("promise 38: the ((n - 1) / 2)-th least one, from 0, rounded down");
        int[] values = {-64, -5, 0, 1, 9, 63};
        int[] due = {-64, -64, -5, -5, 0, 0};
        for (int many = 1; many <= values.length; many++) {
            Bitmapstore x = ofColumn(java.util.Arrays.copyOf(values, many));
            checks.due("of " + many, x.middle(0, 0), due[many - 1]);
            x.addRow(NULL, NULL, NULL, NULL);
            x.addRow(NULL, NULL, NULL, NULL);
            x.runPlan(0);
            checks.due("rows without a value do not count", x.middle(0, 0), due[many - 1]);
        }
        checks.due("of 120", alike(63).middle(0, 0), 63);
        Bitmapstore full = Stores.full();
        full.contrary(0);
        checks.due("of 120 unlike ones", full.middle(0, 0), 59 - 64);
        full.strike(119);
        checks.due("of 119", full.middle(0, 0), 59 - 64);
        full.strike(118);
        checks.due("of 118", full.middle(0, 0), 58 - 64);
        checks.start("promise 38: NULL without any");
        checks.due("without values", full.middle(0, 2), NULL);
        checks.due("of no rows", full.middle(1, 0), NULL);
        checks.due("without rows", new Bitmapstore().middle(0, 0), NULL);
    }

    private static void top() {
        checks.start("3: the greatest value first, of like values the lesser row first");
        Bitmapstore x = ofColumn(0, 63, NULL, -64, 63, 0, -1, -64, NULL);
        int[] due = {1, 4, 0, 5, 6, 3, 7};
        for (int place = 0; place < due.length; place++) {
            checks.due("place " + place, x.top(0, 0, place), due[place]);
        }
        checks.start("promise 39: NONE if there is no such place");
        for (int place : new int[] {7, 8, 9, 120, 128, MAX, -1, -7, MIN}) {
            checks.due("place " + place, x.top(0, 0, place), NONE);
        }
        checks.due("3: its rows that have a value there", x.top(0, 1, 0), NONE);
        checks.due("of no rows", x.top(1, 0, 0), NONE);
        checks.due("without rows", new Bitmapstore().top(0, 0, 0), NONE);
        x.put(0, 4, false);
        x.put(0, 0, false);
        checks.due("rows that are not in it", x.top(0, 0, 1), 5);
        checks.due("one place less", x.top(0, 0, 5), NONE);
        Bitmapstore alike = alike(-64);
        Bitmapstore full = Stores.full();
        full.contrary(0);
        for (int place = 0; place < 120; place++) {
            checks.due("all alike", alike.top(0, 0, place), place);
            checks.due("all unlike", full.top(0, 0, place), 119 - place);
            checks.due("all unlike, the other way", full.top(0, 1, place), place);
        }
        checks.due("place 120", full.top(0, 0, 120), NONE);
        checks.dueIndex("filter 8, place -1", () -> full.top(8, 0, -1));
        checks.dueIndex("column -1, place -1", () -> full.top(0, -1, -1));
    }

    private static void unlike() {
        checks.start("promise 40: how many unlike values there are");
        checks.due("all alike", alike(-64).unlike(0, 0), 1);
        checks.due("the ends", ofColumn(-64, 63, -64, 63).unlike(0, 0), 2);
        checks.due("NULL is no value", ofColumn(NULL, NULL, 0, NULL).unlike(0, 0), 1);
        checks.due("without values", ofColumn(NULL, NULL).unlike(0, 0), 0);
        Bitmapstore full = Stores.full();
        full.contrary(0);
        checks.due("all unlike", full.unlike(0, 0), 120);
        full.put(0, 0, false);
        checks.due("rows that are not in it", full.unlike(0, 0), 119);
        checks.due("of no rows", full.unlike(1, 0), 0);
        checks.due("without rows", new Bitmapstore().unlike(0, 0), 0);
    }

    private static void join() {
        checks.start("5: a row of the first filter and a row of the second one (perhaps the same)");
        Bitmapstore x = Stores.ofRows(new int[][] {
            {-64, 63, NULL, 0}, {63, -64, NULL, NULL}, {NULL, NULL, 0, 0}, {63, 5, NULL, 1}});
        x.contrary(0);
        Stores.put(x, 1, 1);
        checks.due("one row with itself", x.join(0, 1, 0, 1), 1);
        checks.due("like values, each with each", x.join(0, 0, 0, 0), 5);
        checks.due("the outermost values", x.join(0, 0, 1, 0), 3);
        checks.due("the outermost values, the other way", x.join(1, 0, 0, 0), 3);
        checks.due("no row of the first filter", x.join(0, 7, 0, 0), 0);
        checks.due("no row of the second filter", x.join(0, 0, 0, 7), 0);
        checks.start("5: NULL is not the same as NULL here");
        checks.due("one row with NULL in both", x.join(2, 1, 3, 1), 0);
        checks.due("NULL and 0", x.join(2, 0, 3, 0), 2);
        checks.due("many with NULL", Stores.full().join(2, 0, 2, 0), 0);
        checks.start("promise 41: Counts the pairs of a join");
        checks.due("the most", alike(-64).join(0, 0, 0, 0), 120 * 120);
        Bitmapstore full = Stores.full();
        full.contrary(0);
        checks.due("each with itself", full.join(0, 0, 0, 0), 120);
        checks.due("unlike columns", full.join(0, 0, 1, 0), 112);
        checks.due("without rows", new Bitmapstore().join(0, 0, 0, 0), 0);
    }

    // ---- groups

    private static void isGroups(String call, Bitmapstore x, int columns, String... want) {
        checks.due(call, x.rollup(0, columns), want.length);
        checks.dueText(call, Stores.groups(x), String.join(", ", want));
    }

    private static void groups() {
        checks.start("5: (A filter without rows has no groups.)");
        for (int columns = 1; columns <= 15; columns++) {
            isGroups("without rows", new Bitmapstore(), columns);
            isGroups("of no rows", Stores.ofColumn(1, 2, 3), columns);
        }
        checks.start("5: up to all rows of the filter; what does not count has ALL");
        Bitmapstore one = Stores.ofRows(new int[][] {{-64, NULL, 63, 0}});
        one.contrary(0);
        isGroups("one row, all columns", one, 15, "-64 100 63 0: 1", "-64 100 63 101: 1",
                "-64 100 101 101: 1", "-64 101 101 101: 1", "101 101 101 101: 1");
        isGroups("one row, the first column", one, 1, "-64 101 101 101: 1", "101 101 101 101: 1");
        isGroups("one row, the last column", one, 8, "101 101 101 0: 1", "101 101 101 101: 1");
        isGroups("one row without a value", one, 2, "101 100 101 101: 1", "101 101 101 101: 1");
        isGroups("one row, columns apart", one, 10, "101 100 101 0: 1", "101 100 101 101: 1",
                "101 101 101 101: 1");
        checks.start("5: values are in ascending order, NULL is behind all values, ALL behind NULL");
        Bitmapstore x = ofColumn(63, NULL, -64, 0, -1, NULL, 62, -63);
        isGroups("one column", x, 1, "-64 101 101 101: 1", "-63 101 101 101: 1",
                "-1 101 101 101: 1", "0 101 101 101: 1", "62 101 101 101: 1", "63 101 101 101: 1",
                "100 101 101 101: 2", "101 101 101 101: 8");
        isGroups("only NULL", x, 4, "101 101 100 101: 8", "101 101 101 101: 8");
        x.setValue(1, 1, 63);
        x.setValue(5, 1, -64);
        x.put(0, 0, false);
        x.put(0, 2, false);
        x.put(0, 3, false);
        isGroups("NULL parted by the next column", x, 3, "-63 100 101 101: 1",
                "-63 101 101 101: 1", "-1 100 101 101: 1", "-1 101 101 101: 1",
                "62 100 101 101: 1", "62 101 101 101: 1", "100 -64 101 101: 1",
                "100 63 101 101: 1", "100 101 101 101: 2", "101 101 101 101: 5");
        mostGroups();
    }

    private static void mostGroups() {
        checks.start("promise 42: columns: as bits, 1 to 15");
        Bitmapstore x = Stores.full();
        x.contrary(0);
        checks.due("the most groups", x.rollup(0, 15), 4 * 120 + 1);
        checks.dueText("the first one", Stores.group(x, 0), "-64 63 100 0: 1");
        checks.dueText("ahead of the last one", Stores.group(x, 479), "55 101 101 101: 1");
        checks.dueText("the last one", Stores.group(x, 480), "101 101 101 101: 120");
        checks.dueIndex("behind the last one", () -> x.groupAt(481, 0));
        int[] many = {121, 121, 241, 2, 241, 241, 361, 3, 241, 241, 361, 4, 361, 361, 481};
        for (int columns = 1; columns <= 15; columns++) {
            checks.due("columns " + columns, x.rollup(0, columns), many[columns - 1]);
        }
        checks.due("all alike", alike(5).rollup(0, 15), 5);
        for (int columns : new int[] {0, -1, 16, 17, 31, MIN, MAX, MIN + 1}) {
            checks.dueArgument("columns " + columns, () -> x.rollup(0, columns));
            checks.dueIndex("filter ahead of columns", () -> x.rollup(8, columns));
        }
        checks.dueText("refused, the groups stay", Stores.group(x, 480), "101 101 101 101: 120");
    }

    private static void keptGroups() {
        checks.start("promise 43: a group of the latest rollup()");
        Bitmapstore x = Stores.ofRows(new int[][] {{1, 2, 3, 4}, {5, 6, 7, NULL}});
        checks.dueIndex("ahead of a rollup", () -> x.groupAt(0, 0));
        x.contrary(0);
        x.rollup(0, 9);
        String groups = Stores.groups(x);
        checks.dueText("groups", groups, "1 101 101 4: 1, 1 101 101 101: 1, 5 101 101 100: 1, "
                + "5 101 101 101: 1, 101 101 101 101: 2");
        checks.due("the last group", x.groupAt(4, 4), 2);
        for (int group : new int[] {-1, 5, 6, 480, 481, MIN, MAX}) {
            checks.dueIndex("group " + group, () -> x.groupAt(group, 0));
            checks.dueIndex("group ahead of what, " + group, () -> x.groupAt(group, 5));
        }
        for (int what : new int[] {-1, 5, 8, MIN, MAX}) {
            checks.dueArgument("what " + what, () -> x.groupAt(0, what));
        }
        x.setValue(0, 0, 9);
        x.strike(1);
        x.combine(0, Bitmapstore.XOR, 0);
        checks.dueText("rows and filters change", Stores.groups(x), groups);
        checks.start("7: The groups of the latest rollup() are not brought back");
        x.contrary(0);
        x.rollup(0, 1);
        x.undo();
        checks.dueText("undone", Stores.groups(x), "9 101 101 101: 1, 101 101 101 101: 1");
        x.undo();
        x.undo();
        checks.dueText("undone thrice", Stores.groups(x), "9 101 101 101: 1, 101 101 101 101: 1");
        checks.start("promise 42: keeps the groups, in place of those that are kept");
        x.rollup(7, 15);
        checks.dueText("no groups", Stores.groups(x), "");
        checks.due("a group in a column that is ALL", ALL, 101);
    }

    // ---- measures

    private static void mean() {
        checks.start("promise 51: 0.0 without any");
        checks.dueNumber("without rows", new Bitmapstore().mean(0, 0), 0.0);
        checks.dueNumber("of no rows", alike(5).mean(1, 0), 0.0);
        checks.dueNumber("without values", alike(5).mean(0, 1), 0.0);
        checks.start("promise 51: the sum as a double, divided by the number as a double");
        checks.dueNumber("the least one", alike(-64).mean(0, 0), -64.0);
        checks.dueNumber("the greatest one", alike(63).mean(0, 0), 63.0);
        checks.dueNumber("a sum of 0", ofColumn(-5, 5).mean(0, 0), 0.0);
        checks.dueNumber("a third", ofColumn(1, 0, 0).mean(0, 0), 1.0 / 3.0);
        checks.dueNumber("below 0", ofColumn(-1, 0, 0).mean(0, 0), -1.0 / 3.0);
        checks.dueNumber("a half below 0", ofColumn(-64, 63).mean(0, 0), -0.5);
        checks.dueNumber("NULL does not count", ofColumn(NULL, 1, NULL, 2).mean(0, 0), 1.5);
        checks.dueIndex("filter 8", () -> new Bitmapstore().mean(8, 0));
        checks.dueIndex("column 4", () -> new Bitmapstore().mean(0, 4));
    }

    private static void share() {
        checks.start("promise 52: 0.0f without rows");
        checks.dueNumber("at first", new Bitmapstore().share(0), 0.0f);
        Bitmapstore x = ofColumn(1, 2, NULL);
        checks.dueNumber("all", x.share(0), 1.0f);
        checks.dueNumber("none", x.share(1), 0.0f);
        x.put(0, 0, false);
        checks.dueNumber("two of three", x.share(0), 2.0f / 3.0f);
        x.strike(0);
        checks.dueNumber("two of two", x.share(0), 1.0f);
        x.strike(1);
        x.strike(2);
        checks.dueNumber("all are struck", x.share(0), 0.0f);
        Bitmapstore full = Stores.full();
        full.put(0, 119, true);
        checks.dueNumber("one of 120", full.share(0), 1.0f / 120.0f);
        full.contrary(0);
        checks.dueNumber("119 of 120", full.share(0), 119.0f / 120.0f);
    }

    private static void errors() {
        checks.start("promise 53: always 0");
        checks.due("without rows", new Bitmapstore().errors(), 0);
        checks.due("without values", ofColumn(NULL, NULL).errors(), 0);
        checks.due("full", Stores.full().errors(), 0);
        for (int number : new int[] {-64, -33, -1, 0, 17, 63}) {
            Bitmapstore x = ofColumn(Math.max(number - 1, -64), number, Math.min(number + 1, 63),
                    NULL);
            checks.due("beside " + number, x.errors(), 0);
            x.strike(1);
            checks.due("a struck row", x.errors(), 0);
            x.undo();
            checks.due("undone", x.errors(), 0);
        }
    }
}
